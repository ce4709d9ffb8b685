/-! names and quotes, read by the plain one -/
theorem PD_TQ {r : RS} {tb : Int → Int} {tl z0 x mg ti b ba t h k v ln tk y z0' x' mg' ti' : Int} {g ma g' ma' : Int → Int} (hb : b ≠ 0) (hq : PD r tb tl z0 x mg ti b ba t h v ln tk y g ma) : TQ r tb tl z0' x' mg' ti' b ba t h k v ln tk y g' ma' :=
  ⟨⟨(hq.2.1 hb).1.1, (hq.2.1 hb).1.2, hq.1⟩, fun _ => (hq.2.1 hb).2, fun z => absurd z hb⟩
abbrev MBm (ma : Int → Int) : Prop := ∀ j, 0 ≤ j → j < 60 → ma j = 0 ∨ ma j = 1
theorem MB_iu {ma : Int → Int} {z v : Int} (h : MBm ma) (hv : v = 0 ∨ v = 1) : MBm (iu ma z v) := by
  intro j a b
  show (if j = z then v else ma j) = 0 ∨ (if j = z then v else ma j) = 1
  split
  · exact hv
  · exact h j a b
theorem mul9 {t m : Int} (h : 1 ≤ t ∧ t ≤ 9) (hm : -402 ≤ m ∧ m ≤ 400) : -4000 ≤ t * m ∧ t * m ≤ 4000 := by
  rcases (show t = 1 ∨ t = 2 ∨ t = 3 ∨ t = 4 ∨ t = 5 ∨ t = 6 ∨ t = 7 ∨ t = 8 ∨ t = 9 by omega) with rfl | rfl | rfl | rfl | rfl | rfl | rfl | rfl | rfl <;> omega
set_option maxRecDepth 100000 in
set_option maxHeartbeats 4000000 in
theorem c_X10_nameHere {l : Launch} {Γ : JG} {ad : Nat → Nat} {E : Nat → va_E} {m0 m1 m2 m3 m4 m5 m6 m7 m8 m9 m10 m11 m12 m13 m14 : Int} {tb : Int → Int} (hM : E 78 = .inr (9, [.ref (ad 79), .ref (ad 80), .int (jI m0), .int (jI m1), .int (jI m2), .int (jI m3), .int (jI m4), .int (jI m5), .int (jI m6), .int (jI m7), .int (jI m8), .int (jI m9), .int (jI m10), .int (jI m11), .ref (ad 81), .ref (ad 82), .ref (ad 83), .ref (ad 84), .ref (ad 85), .ref (ad 86), .ref (ad 87), .ref (ad 88), .ref (ad 89), .int (jI m12), .int (jI m13), .ref (ad 90), .ref (ad 91), .ref (ad 92), .ref (ad 93), .ref (ad 94), .int (jI m14)])) (hTp : E 80 = aI Γ 160 tb) (hEn : E 82 = aI Γ 4 enF) (hLe : E 83 = aI Γ 10 leF) (htb : TB m0 tb) (hab : m6 = 1 → 0 ≤ m5 ∧ m5 < m4 ∧ m4 ≤ m0) (hk6 : 0 ≤ m6 ∧ m6 ≤ 4) : JM l Γ yX10_nameHere cX10_nameHere 4 (some .int) 1 21 0 0 ad 95 E [.ref (ad 78)] (pP (nmC tb m5 m4 m6) E) := by
  refine JM_intro (own := RX10) [some (.ref (ad 78)), none, none, none] rfl rfl rfl (Nat.le_of_ble_eq_true rfl) ?_
  intro Ω X R hin
  obtain ⟨htl, htv⟩ := id htb
  refine J_iconst (q := 1) X dX10_nameHere_0 rfl ?_
  refine J_istore_n (q := 2) X dX10_nameHere_1 (by decide) rfl rfl ?_
  have lp2 : ∀ (m : Nat) (n : Int) (hn : 0 ≤ n ∧ n ≤ 3) (hno : ∀ w : Int, 0 ≤ w → w < n → ¬ nmw tb m5 m4 (wmN w)) (hm : 3 - n + 1 ≤ (m : Int)), J l Γ Ω 4 ad 95 0 0 E 2 [some (.ref (ad 78)), some (.int (jI n)), none, none] [] := by
    intro m
    induction m with
    | zero => intro n hn hno hm; exfalso; omega
    | succ m ih2 =>
      intro n hn hno hm
      refine J_iload_n (q := 3) X dX10_nameHere_2 rfl rfl ?_
      refine J_iconst (q := 4) X dX10_nameHere_3 rfl ?_
      refine J_icmp_ge (q := 7) (tgt := 117) X dX10_nameHere_4 (by decide) rfl (by omega) (by omega) (fun cq4 => ?_) (fun cq4 => ?_)
      · refine J_bipush (q := 119) X dX10_nameHere_117 rfl (by decide) ?_
        refine J_iret X R dX10_nameHere_119 ?_
        first
          | exact ⟨by rw [show nmC tb m5 m4 m6 = -4 from if_pos (by omega)], rfl⟩
          | (have e : nmC tb m5 m4 m6 = -4 := by
               unfold nmC
               by_cases h6 : m6 ≠ 1
               · rw [if_pos h6]
               rw [if_neg h6, if_neg (show ¬ nmw tb m5 m4 1 from hno 0 (by omega) (by omega)), if_neg (show ¬ nmw tb m5 m4 2 from hno 1 (by omega) (by omega)), if_neg (show ¬ nmw tb m5 m4 0 from hno 2 (by omega) (by omega))]
             exact ⟨by rw [e], rfl⟩)
      · refine J_aload_n (q := 8) X dX10_nameHere_7 rfl rfl ?_
        refine J_get (q := 11) X dX10_nameHere_8 fX10_86 hM (by omega) rfl rfl ?_
        refine J_iconst (q := 12) X dX10_nameHere_11 rfl ?_
        refine J_icmp_ne (q := 15) (tgt := 117) X dX10_nameHere_12 (by decide) rfl (by omega) (by omega) (fun cq12 => ?_) (fun cq12 => ?_)
        · refine J_bipush (q := 119) X dX10_nameHere_117 rfl (by decide) ?_
          refine J_iret X R dX10_nameHere_119 ?_
          first
            | exact ⟨by rw [show nmC tb m5 m4 m6 = -4 from if_pos (by omega)], rfl⟩
            | (have e : nmC tb m5 m4 m6 = -4 := by
                 unfold nmC
                 by_cases h6 : m6 ≠ 1
                 · rw [if_pos h6]
                 rw [if_neg h6, if_neg (show ¬ nmw tb m5 m4 1 from hno 0 (by omega) (by omega)), if_neg (show ¬ nmw tb m5 m4 2 from hno 1 (by omega) (by omega)), if_neg (show ¬ nmw tb m5 m4 0 from hno 2 (by omega) (by omega))]
               exact ⟨by rw [e], rfl⟩)
        · have hen := en_ln (n := n) (by omega)
          have hb1 := hab (by omega)
          refine J_aload_n (q := 16) X dX10_nameHere_15 rfl rfl ?_
          refine J_get (q := 19) X dX10_nameHere_16 fX10_89 hM (by omega) rfl rfl ?_
          refine J_aload_n (q := 20) X dX10_nameHere_19 rfl rfl ?_
          refine J_get (q := 23) X dX10_nameHere_20 fX10_72 hM (by omega) rfl rfl ?_
          refine J_isub (q := 24) X dX10_nameHere_23 rfl ?_
          refine J_aload_n (q := 25) X dX10_nameHere_24 rfl rfl ?_
          refine J_get (q := 28) X dX10_nameHere_25 fX10_19 hM (by omega) rfl rfl ?_
          refine J_iload_n (q := 29) X dX10_nameHere_28 rfl rfl ?_
          refine J_iconst (q := 30) X dX10_nameHere_29 rfl ?_
          refine J_iadd (q := 31) X dX10_nameHere_30 rfl ?_
          refine J_iald (q := 32) X dX10_nameHere_31 hEn (by omega) (by omega) (by decide) rfl ?_
          refine J_aload_n (q := 33) X dX10_nameHere_32 rfl rfl ?_
          refine J_get (q := 36) X dX10_nameHere_33 fX10_19 hM (by omega) rfl rfl ?_
          refine J_iload_n (q := 37) X dX10_nameHere_36 rfl rfl ?_
          refine J_iald (q := 38) X dX10_nameHere_37 hEn (by omega) (by omega) (by decide) rfl ?_
          refine J_isub (q := 39) X dX10_nameHere_38 rfl ?_
          refine J_icmp_ne (q := 42) (tgt := 46) X dX10_nameHere_39 (by decide) rfl (by omega) (by omega) (fun cq39 => ?_) (fun cq39 => ?_)
          · refine J_iconst (q := 47) X dX10_nameHere_46 rfl ?_
            refine J_istore_n (q := 48) X dX10_nameHere_47 (by decide) rfl rfl ?_
            refine J_iconst (q := 49) X dX10_nameHere_48 rfl ?_
            refine J_istore_n (q := 50) X dX10_nameHere_49 (by decide) rfl rfl ?_
            have lp50 : ∀ (mm : Nat) (sm kk : Int) (hkk : 0 ≤ kk ∧ kk ≤ m4 - m5) (hsm : (sm = 1 ∧ m4 - m5 = jln (wmN n) ∧ kk ≤ jln (wmN n) ∧ (∀ j : Int, 0 ≤ j → j < kk → tb (m5 + j) = jch (wmN n) j)) ∨ (sm = 0 ∧ ¬ nmw tb m5 m4 (wmN n))) (hmm : m4 - m5 - kk + 1 ≤ (mm : Int)), J l Γ Ω 4 ad 95 0 0 E 50 [some (.ref (ad 78)), some (.int (jI n)), some (.int (jI sm)), some (.int (jI kk))] [] := by
              intro mm
              induction mm with
              | zero => intro sm kk hkk hsm hmm; exfalso; omega
              | succ mm ih50 =>
                intro sm kk hkk hsm hmm
                have hsb : sm = 0 ∨ sm = 1 := by
                  rcases hsm with z | z
                  · exact Or.inr z.1
                  · exact Or.inl z.1
                refine J_iload_n (q := 51) X dX10_nameHere_50 rfl rfl ?_
                refine J_if_eq (q := 54) (tgt := 105) X dX10_nameHere_51 (by decide) rfl (by omega) (fun cq51 => ?_) (fun cq51 => ?_)
                · refine J_iload_n (q := 106) X dX10_nameHere_105 rfl rfl ?_
                  refine J_if_eq (q := 109) (tgt := 111) X dX10_nameHere_106 (by decide) rfl (by omega) (fun cq106 => ?_) (fun cq106 => ?_)
                  · refine J_iinc (q := 114) X dX10_nameHere_111 rfl (by decide) rfl rfl ?_
                    refine J_goto (q := 2) X dX10_nameHere_114 (by decide) ?_
                    refine J_kill 2 ?_
                    refine J_kill 3 ?_
                    first
                      | (exfalso; omega)
                      | exact ih2 _ (by omega) (fun w a b => by
                          by_cases e : w = n
                          · rw [e]
                            rcases hsm with z | z
                            · exfalso; omega
                            · exact z.2
                          · exact hno w a (by omega)) (by omega)
                  · refine J_iload_n (q := 110) X dX10_nameHere_109 rfl rfl ?_
                    refine J_iret X R dX10_nameHere_110 ?_
                    first
                      | (exfalso; omega)
                      | (have hA2 : m4 - m5 = jln (wmN n) ∧ kk ≤ jln (wmN n) ∧ (∀ j : Int, 0 ≤ j → j < kk → tb (m5 + j) = jch (wmN n) j) := by
                           rcases hsm with z | z
                           · exact z.2
                           · exact absurd z.1 cq51
                         have hnm : nmw tb m5 m4 (wmN n) := nmw_of hA2.1 (fun j a b => hA2.2.2 j a (by omega)) (by omega)
                         have e : nmC tb m5 m4 m6 = n := by
                           unfold nmC
                           rw [if_neg (by omega)]
                           rcases (show n = 0 ∨ n = 1 ∨ n = 2 by omega) with e | e | e
                           · subst e; rw [if_pos (show nmw tb m5 m4 1 from hnm)]
                           · subst e; rw [if_neg (show ¬ nmw tb m5 m4 1 from hno 0 (by omega) (by omega)), if_pos (show nmw tb m5 m4 2 from hnm)]
                           · subst e; rw [if_neg (show ¬ nmw tb m5 m4 1 from hno 0 (by omega) (by omega)), if_neg (show ¬ nmw tb m5 m4 2 from hno 1 (by omega) (by omega)), if_pos (show nmw tb m5 m4 0 from hnm)]
                         exact ⟨by rw [e], rfl⟩)
                · refine J_iload_n (q := 55) X dX10_nameHere_54 rfl rfl ?_
                  refine J_aload_n (q := 56) X dX10_nameHere_55 rfl rfl ?_
                  refine J_get (q := 59) X dX10_nameHere_56 fX10_89 hM (by omega) rfl rfl ?_
                  refine J_aload_n (q := 60) X dX10_nameHere_59 rfl rfl ?_
                  refine J_get (q := 63) X dX10_nameHere_60 fX10_72 hM (by omega) rfl rfl ?_
                  refine J_isub (q := 64) X dX10_nameHere_63 rfl ?_
                  refine J_icmp_ge (q := 67) (tgt := 105) X dX10_nameHere_64 (by decide) rfl (by omega) (by omega) (fun cq64 => ?_) (fun cq64 => ?_)
                  · refine J_iload_n (q := 106) X dX10_nameHere_105 rfl rfl ?_
                    refine J_if_eq (q := 109) (tgt := 111) X dX10_nameHere_106 (by decide) rfl (by omega) (fun cq106 => ?_) (fun cq106 => ?_)
                    · refine J_iinc (q := 114) X dX10_nameHere_111 rfl (by decide) rfl rfl ?_
                      refine J_goto (q := 2) X dX10_nameHere_114 (by decide) ?_
                      refine J_kill 2 ?_
                      refine J_kill 3 ?_
                      first
                        | (exfalso; omega)
                        | exact ih2 _ (by omega) (fun w a b => by
                            by_cases e : w = n
                            · rw [e]
                              rcases hsm with z | z
                              · exfalso; omega
                              · exact z.2
                            · exact hno w a (by omega)) (by omega)
                    · refine J_iload_n (q := 110) X dX10_nameHere_109 rfl rfl ?_
                      refine J_iret X R dX10_nameHere_110 ?_
                      first
                        | (exfalso; omega)
                        | (have hA2 : m4 - m5 = jln (wmN n) ∧ kk ≤ jln (wmN n) ∧ (∀ j : Int, 0 ≤ j → j < kk → tb (m5 + j) = jch (wmN n) j) := by
                             rcases hsm with z | z
                             · exact z.2
                             · exact absurd z.1 cq51
                           have hnm : nmw tb m5 m4 (wmN n) := nmw_of hA2.1 (fun j a b => hA2.2.2 j a (by omega)) (by omega)
                           have e : nmC tb m5 m4 m6 = n := by
                             unfold nmC
                             rw [if_neg (by omega)]
                             rcases (show n = 0 ∨ n = 1 ∨ n = 2 by omega) with e | e | e
                             · subst e; rw [if_pos (show nmw tb m5 m4 1 from hnm)]
                             · subst e; rw [if_neg (show ¬ nmw tb m5 m4 1 from hno 0 (by omega) (by omega)), if_pos (show nmw tb m5 m4 2 from hnm)]
                             · subst e; rw [if_neg (show ¬ nmw tb m5 m4 1 from hno 0 (by omega) (by omega)), if_neg (show ¬ nmw tb m5 m4 2 from hno 1 (by omega) (by omega)), if_pos (show nmw tb m5 m4 0 from hnm)]
                           exact ⟨by rw [e], rfl⟩)
                  · have hA1 : m4 - m5 = jln (wmN n) ∧ kk ≤ jln (wmN n) ∧ (∀ j : Int, 0 ≤ j → j < kk → tb (m5 + j) = jch (wmN n) j) := by
                      rcases hsm with z | z
                      · exact z.2
                      · exact absurd z.1 cq51
                    have hle := le_ch (n := n) (k := kk) (by omega) (by omega)
                    have hbt := bt_in htb (k := m5 + kk) (by omega)
                    refine J_aload_n (q := 68) X dX10_nameHere_67 rfl rfl ?_
                    refine J_aload_n (q := 69) X dX10_nameHere_68 rfl rfl ?_
                    refine J_get (q := 72) X dX10_nameHere_69 fX10_72 hM (by omega) rfl rfl ?_
                    refine J_iload_n (q := 73) X dX10_nameHere_72 rfl rfl ?_
                    refine J_iadd (q := 74) X dX10_nameHere_73 rfl ?_
                    refine J_callP (q := 77) (jrV X mX10_92 dX10_nameHere_74 (c_X10_byteAt hM hTp htb (by omega)) hM (by omega) rfl rfl rfl rfl (Nat.le_of_ble_eq_true rfl) (by decide)) rfl ?_
                    refine J_aload_n (q := 78) X dX10_nameHere_77 rfl rfl ?_
                    refine J_get (q := 81) X dX10_nameHere_78 fX10_22 hM (by omega) rfl rfl ?_
                    refine J_aload_n (q := 82) X dX10_nameHere_81 rfl rfl ?_
                    refine J_get (q := 85) X dX10_nameHere_82 fX10_19 hM (by omega) rfl rfl ?_
                    refine J_iload_n (q := 86) X dX10_nameHere_85 rfl rfl ?_
                    refine J_iald (q := 87) X dX10_nameHere_86 hEn (by omega) (by omega) (by decide) rfl ?_
                    refine J_iload_n (q := 88) X dX10_nameHere_87 rfl rfl ?_
                    refine J_iadd (q := 89) X dX10_nameHere_88 rfl ?_
                    refine J_iald (q := 90) X dX10_nameHere_89 hLe (by omega) (by omega) (by decide) rfl ?_
                    refine J_icmp_ne (q := 93) (tgt := 97) X dX10_nameHere_90 (by decide) rfl (by omega) (by omega) (fun cq90 => ?_) (fun cq90 => ?_)
                    · refine J_iconst (q := 98) X dX10_nameHere_97 rfl ?_
                      refine J_istore_n (q := 99) X dX10_nameHere_98 (by decide) rfl rfl ?_
                      refine J_iinc (q := 102) X dX10_nameHere_99 rfl (by decide) rfl rfl ?_
                      refine J_goto (q := 50) X dX10_nameHere_102 (by decide) ?_
                      have hbe : bt tb m0 (m5 + kk) = tb (m5 + kk) := if_pos (by omega)
                      first
                        | exact ih50 _ _ (by omega) (Or.inl ⟨rfl, hA1.1, by omega, fun j a b => by
                            by_cases e : j = kk
                            · rw [e]; omega
                            · exact hA1.2.2 j a (by omega)⟩) (by omega)
                        | exact ih50 _ _ (by omega) (Or.inr ⟨rfl, fun z => cq90 (by have z1 := nmw_to z (by omega) kk (by omega) (by omega); omega)⟩) (by omega)
                    · refine J_iconst (q := 94) X dX10_nameHere_93 rfl ?_
                      refine J_goto (q := 98) X dX10_nameHere_94 (by decide) ?_
                      refine J_istore_n (q := 99) X dX10_nameHere_98 (by decide) rfl rfl ?_
                      refine J_iinc (q := 102) X dX10_nameHere_99 rfl (by decide) rfl rfl ?_
                      refine J_goto (q := 50) X dX10_nameHere_102 (by decide) ?_
                      have hbe : bt tb m0 (m5 + kk) = tb (m5 + kk) := if_pos (by omega)
                      first
                        | exact ih50 _ _ (by omega) (Or.inl ⟨rfl, hA1.1, by omega, fun j a b => by
                            by_cases e : j = kk
                            · rw [e]; omega
                            · exact hA1.2.2 j a (by omega)⟩) (by omega)
                        | exact ih50 _ _ (by omega) (Or.inr ⟨rfl, fun z => cq90 (by have z1 := nmw_to z (by omega) kk (by omega) (by omega); omega)⟩) (by omega)
            first
              | exact lp50 1000 _ _ (by omega) (Or.inl ⟨rfl, by omega, by omega, fun j a b => by omega⟩) (by omega)
              | exact lp50 1000 _ _ (by omega) (Or.inr ⟨rfl, fun z => by have z1 := z.1; omega⟩) (by omega)
          · refine J_iconst (q := 43) X dX10_nameHere_42 rfl ?_
            refine J_goto (q := 47) X dX10_nameHere_43 (by decide) ?_
            refine J_istore_n (q := 48) X dX10_nameHere_47 (by decide) rfl rfl ?_
            refine J_iconst (q := 49) X dX10_nameHere_48 rfl ?_
            refine J_istore_n (q := 50) X dX10_nameHere_49 (by decide) rfl rfl ?_
            have lp50 : ∀ (mm : Nat) (sm kk : Int) (hkk : 0 ≤ kk ∧ kk ≤ m4 - m5) (hsm : (sm = 1 ∧ m4 - m5 = jln (wmN n) ∧ kk ≤ jln (wmN n) ∧ (∀ j : Int, 0 ≤ j → j < kk → tb (m5 + j) = jch (wmN n) j)) ∨ (sm = 0 ∧ ¬ nmw tb m5 m4 (wmN n))) (hmm : m4 - m5 - kk + 1 ≤ (mm : Int)), J l Γ Ω 4 ad 95 0 0 E 50 [some (.ref (ad 78)), some (.int (jI n)), some (.int (jI sm)), some (.int (jI kk))] [] := by
              intro mm
              induction mm with
              | zero => intro sm kk hkk hsm hmm; exfalso; omega
              | succ mm ih50 =>
                intro sm kk hkk hsm hmm
                have hsb : sm = 0 ∨ sm = 1 := by
                  rcases hsm with z | z
                  · exact Or.inr z.1
                  · exact Or.inl z.1
                refine J_iload_n (q := 51) X dX10_nameHere_50 rfl rfl ?_
                refine J_if_eq (q := 54) (tgt := 105) X dX10_nameHere_51 (by decide) rfl (by omega) (fun cq51 => ?_) (fun cq51 => ?_)
                · refine J_iload_n (q := 106) X dX10_nameHere_105 rfl rfl ?_
                  refine J_if_eq (q := 109) (tgt := 111) X dX10_nameHere_106 (by decide) rfl (by omega) (fun cq106 => ?_) (fun cq106 => ?_)
                  · refine J_iinc (q := 114) X dX10_nameHere_111 rfl (by decide) rfl rfl ?_
                    refine J_goto (q := 2) X dX10_nameHere_114 (by decide) ?_
                    refine J_kill 2 ?_
                    refine J_kill 3 ?_
                    first
                      | (exfalso; omega)
                      | exact ih2 _ (by omega) (fun w a b => by
                          by_cases e : w = n
                          · rw [e]
                            rcases hsm with z | z
                            · exfalso; omega
                            · exact z.2
                          · exact hno w a (by omega)) (by omega)
                  · refine J_iload_n (q := 110) X dX10_nameHere_109 rfl rfl ?_
                    refine J_iret X R dX10_nameHere_110 ?_
                    first
                      | (exfalso; omega)
                      | (have hA2 : m4 - m5 = jln (wmN n) ∧ kk ≤ jln (wmN n) ∧ (∀ j : Int, 0 ≤ j → j < kk → tb (m5 + j) = jch (wmN n) j) := by
                           rcases hsm with z | z
                           · exact z.2
                           · exact absurd z.1 cq51
                         have hnm : nmw tb m5 m4 (wmN n) := nmw_of hA2.1 (fun j a b => hA2.2.2 j a (by omega)) (by omega)
                         have e : nmC tb m5 m4 m6 = n := by
                           unfold nmC
                           rw [if_neg (by omega)]
                           rcases (show n = 0 ∨ n = 1 ∨ n = 2 by omega) with e | e | e
                           · subst e; rw [if_pos (show nmw tb m5 m4 1 from hnm)]
                           · subst e; rw [if_neg (show ¬ nmw tb m5 m4 1 from hno 0 (by omega) (by omega)), if_pos (show nmw tb m5 m4 2 from hnm)]
                           · subst e; rw [if_neg (show ¬ nmw tb m5 m4 1 from hno 0 (by omega) (by omega)), if_neg (show ¬ nmw tb m5 m4 2 from hno 1 (by omega) (by omega)), if_pos (show nmw tb m5 m4 0 from hnm)]
                         exact ⟨by rw [e], rfl⟩)
                · refine J_iload_n (q := 55) X dX10_nameHere_54 rfl rfl ?_
                  refine J_aload_n (q := 56) X dX10_nameHere_55 rfl rfl ?_
                  refine J_get (q := 59) X dX10_nameHere_56 fX10_89 hM (by omega) rfl rfl ?_
                  refine J_aload_n (q := 60) X dX10_nameHere_59 rfl rfl ?_
                  refine J_get (q := 63) X dX10_nameHere_60 fX10_72 hM (by omega) rfl rfl ?_
                  refine J_isub (q := 64) X dX10_nameHere_63 rfl ?_
                  refine J_icmp_ge (q := 67) (tgt := 105) X dX10_nameHere_64 (by decide) rfl (by omega) (by omega) (fun cq64 => ?_) (fun cq64 => ?_)
                  · refine J_iload_n (q := 106) X dX10_nameHere_105 rfl rfl ?_
                    refine J_if_eq (q := 109) (tgt := 111) X dX10_nameHere_106 (by decide) rfl (by omega) (fun cq106 => ?_) (fun cq106 => ?_)
                    · refine J_iinc (q := 114) X dX10_nameHere_111 rfl (by decide) rfl rfl ?_
                      refine J_goto (q := 2) X dX10_nameHere_114 (by decide) ?_
                      refine J_kill 2 ?_
                      refine J_kill 3 ?_
                      first
                        | (exfalso; omega)
                        | exact ih2 _ (by omega) (fun w a b => by
                            by_cases e : w = n
                            · rw [e]
                              rcases hsm with z | z
                              · exfalso; omega
                              · exact z.2
                            · exact hno w a (by omega)) (by omega)
                    · refine J_iload_n (q := 110) X dX10_nameHere_109 rfl rfl ?_
                      refine J_iret X R dX10_nameHere_110 ?_
                      first
                        | (exfalso; omega)
                        | (have hA2 : m4 - m5 = jln (wmN n) ∧ kk ≤ jln (wmN n) ∧ (∀ j : Int, 0 ≤ j → j < kk → tb (m5 + j) = jch (wmN n) j) := by
                             rcases hsm with z | z
                             · exact z.2
                             · exact absurd z.1 cq51
                           have hnm : nmw tb m5 m4 (wmN n) := nmw_of hA2.1 (fun j a b => hA2.2.2 j a (by omega)) (by omega)
                           have e : nmC tb m5 m4 m6 = n := by
                             unfold nmC
                             rw [if_neg (by omega)]
                             rcases (show n = 0 ∨ n = 1 ∨ n = 2 by omega) with e | e | e
                             · subst e; rw [if_pos (show nmw tb m5 m4 1 from hnm)]
                             · subst e; rw [if_neg (show ¬ nmw tb m5 m4 1 from hno 0 (by omega) (by omega)), if_pos (show nmw tb m5 m4 2 from hnm)]
                             · subst e; rw [if_neg (show ¬ nmw tb m5 m4 1 from hno 0 (by omega) (by omega)), if_neg (show ¬ nmw tb m5 m4 2 from hno 1 (by omega) (by omega)), if_pos (show nmw tb m5 m4 0 from hnm)]
                           exact ⟨by rw [e], rfl⟩)
                  · have hA1 : m4 - m5 = jln (wmN n) ∧ kk ≤ jln (wmN n) ∧ (∀ j : Int, 0 ≤ j → j < kk → tb (m5 + j) = jch (wmN n) j) := by
                      rcases hsm with z | z
                      · exact z.2
                      · exact absurd z.1 cq51
                    have hle := le_ch (n := n) (k := kk) (by omega) (by omega)
                    have hbt := bt_in htb (k := m5 + kk) (by omega)
                    refine J_aload_n (q := 68) X dX10_nameHere_67 rfl rfl ?_
                    refine J_aload_n (q := 69) X dX10_nameHere_68 rfl rfl ?_
                    refine J_get (q := 72) X dX10_nameHere_69 fX10_72 hM (by omega) rfl rfl ?_
                    refine J_iload_n (q := 73) X dX10_nameHere_72 rfl rfl ?_
                    refine J_iadd (q := 74) X dX10_nameHere_73 rfl ?_
                    refine J_callP (q := 77) (jrV X mX10_92 dX10_nameHere_74 (c_X10_byteAt hM hTp htb (by omega)) hM (by omega) rfl rfl rfl rfl (Nat.le_of_ble_eq_true rfl) (by decide)) rfl ?_
                    refine J_aload_n (q := 78) X dX10_nameHere_77 rfl rfl ?_
                    refine J_get (q := 81) X dX10_nameHere_78 fX10_22 hM (by omega) rfl rfl ?_
                    refine J_aload_n (q := 82) X dX10_nameHere_81 rfl rfl ?_
                    refine J_get (q := 85) X dX10_nameHere_82 fX10_19 hM (by omega) rfl rfl ?_
                    refine J_iload_n (q := 86) X dX10_nameHere_85 rfl rfl ?_
                    refine J_iald (q := 87) X dX10_nameHere_86 hEn (by omega) (by omega) (by decide) rfl ?_
                    refine J_iload_n (q := 88) X dX10_nameHere_87 rfl rfl ?_
                    refine J_iadd (q := 89) X dX10_nameHere_88 rfl ?_
                    refine J_iald (q := 90) X dX10_nameHere_89 hLe (by omega) (by omega) (by decide) rfl ?_
                    refine J_icmp_ne (q := 93) (tgt := 97) X dX10_nameHere_90 (by decide) rfl (by omega) (by omega) (fun cq90 => ?_) (fun cq90 => ?_)
                    · refine J_iconst (q := 98) X dX10_nameHere_97 rfl ?_
                      refine J_istore_n (q := 99) X dX10_nameHere_98 (by decide) rfl rfl ?_
                      refine J_iinc (q := 102) X dX10_nameHere_99 rfl (by decide) rfl rfl ?_
                      refine J_goto (q := 50) X dX10_nameHere_102 (by decide) ?_
                      have hbe : bt tb m0 (m5 + kk) = tb (m5 + kk) := if_pos (by omega)
                      first
                        | exact ih50 _ _ (by omega) (Or.inl ⟨rfl, hA1.1, by omega, fun j a b => by
                            by_cases e : j = kk
                            · rw [e]; omega
                            · exact hA1.2.2 j a (by omega)⟩) (by omega)
                        | exact ih50 _ _ (by omega) (Or.inr ⟨rfl, fun z => cq90 (by have z1 := nmw_to z (by omega) kk (by omega) (by omega); omega)⟩) (by omega)
                    · refine J_iconst (q := 94) X dX10_nameHere_93 rfl ?_
                      refine J_goto (q := 98) X dX10_nameHere_94 (by decide) ?_
                      refine J_istore_n (q := 99) X dX10_nameHere_98 (by decide) rfl rfl ?_
                      refine J_iinc (q := 102) X dX10_nameHere_99 rfl (by decide) rfl rfl ?_
                      refine J_goto (q := 50) X dX10_nameHere_102 (by decide) ?_
                      have hbe : bt tb m0 (m5 + kk) = tb (m5 + kk) := if_pos (by omega)
                      first
                        | exact ih50 _ _ (by omega) (Or.inl ⟨rfl, hA1.1, by omega, fun j a b => by
                            by_cases e : j = kk
                            · rw [e]; omega
                            · exact hA1.2.2 j a (by omega)⟩) (by omega)
                        | exact ih50 _ _ (by omega) (Or.inr ⟨rfl, fun z => cq90 (by have z1 := nmw_to z (by omega) kk (by omega) (by omega); omega)⟩) (by omega)
            first
              | exact lp50 1000 _ _ (by omega) (Or.inl ⟨rfl, by omega, by omega, fun j a b => by omega⟩) (by omega)
              | exact lp50 1000 _ _ (by omega) (Or.inr ⟨rfl, fun z => by have z1 := z.1; omega⟩) (by omega)
  exact lp2 10 0 (by omega) (fun w a b => by omega) (by omega)

set_option maxRecDepth 100000 in
set_option maxHeartbeats 4000000 in
theorem c_X10_signsRead {l : Launch} {Γ : JG} {ad : Nat → Nat} {E : Nat → va_E} {m0 m1 m2 m3 m4 m5 m6 m7 m8 m9 m10 m11 m12 m13 m14 : Int} {tb g : Int → Int} {r : RS} {z0 mg ti : Int} {ma : Int → Int} (hM : E 78 = .inr (9, [.ref (ad 79), .ref (ad 80), .int (jI m0), .int (jI m1), .int (jI m2), .int (jI m3), .int (jI m4), .int (jI m5), .int (jI m6), .int (jI m7), .int (jI m8), .int (jI m9), .int (jI m10), .int (jI m11), .ref (ad 81), .ref (ad 82), .ref (ad 83), .ref (ad 84), .ref (ad 85), .ref (ad 86), .ref (ad 87), .ref (ad 88), .ref (ad 89), .int (jI m12), .int (jI m13), .ref (ad 90), .ref (ad 91), .ref (ad 92), .ref (ad 93), .ref (ad 94), .int (jI m14)])) (hS : E 79 = aI Γ 305 g) (hTp : E 80 = aI Γ 160 tb) (htb : TB m0 tb) (htq : TQ r tb m0 z0 4 mg ti m2 m3 m4 m5 m6 m7 m8 m9 m10 g ma) (hti : 1 ≤ ti ∧ ti ≤ 9) : JM l Γ yX10_signsRead cX10_signsRead 5 none 5 106 0 0 ad 95 E [.ref (ad 78), .int (jI ti)] (pV (fun E' => ∃ (b ba t h k v y q tk : Int) (g' : Int → Int), E' 78 = .inr (9, [.ref (ad 79), .ref (ad 80), .int (jI m0), .int (jI m1), .int (jI b), .int (jI ba), .int (jI t), .int (jI h), .int (jI k), .int (jI v), .int (jI m8), .int (jI tk), .int (jI y), .int (jI q), .ref (ad 81), .ref (ad 82), .ref (ad 83), .ref (ad 84), .ref (ad 85), .ref (ad 86), .ref (ad 87), .ref (ad 88), .ref (ad 89), .int (jI m12), .int (jI m13), .ref (ad 90), .ref (ad 91), .ref (ad 92), .ref (ad 93), .ref (ad 94), .int (jI m14)]) ∧ E' 79 = aI Γ 305 g' ∧ (∀ j, j < 183 ∨ 244 ≤ j → g' j = g j) ∧ TQ r tb m0 z0 3 mg ti b ba t h k v m8 tk y g' ma ∧ ∀ j : Nat, j ≠ 78 ∧ j ≠ 79 → E' j = E j)) := by
  refine JM_intro (own := RX10) [some (.ref (ad 78)), some (.int (jI ti)), none, none, none] rfl rfl rfl (Nat.le_of_ble_eq_true rfl) ?_
  intro Ω X R hin
  obtain ⟨E0, hE0⟩ : ∃ E0 : Nat → va_E, E0 = E := ⟨_, rfl⟩
  have hF : ∀ j : Nat, j ≠ 78 ∧ j ≠ 79 → E j = E0 j := fun _ _ => by rw [hE0]
  obtain ⟨htl, htv⟩ := id htb
  obtain ⟨⟨hvb, hthb, hbb⟩, -, -⟩ := id htq
  have hkb := fun (z : m2 = 0) => TQ_b (r := r) (tb := tb) (tl := m0) (z0 := z0) (x := 4) (mg := mg) (ti := ti) (ba := m3) (t := m4) (h := m5) (k := m6) (v := m7) (ln := m8) (tk := m9) (y := m10) (g := g) (ma := ma) (by rw [z] at htq; exact htq)
  have hkb6 : m2 = 0 → 0 ≤ m6 ∧ m6 ≤ 4 ∧ 0 ≤ g 243 ∧ g 243 ≤ 60 := fun z => ⟨(hkb z).2.2.2.1.1, (hkb z).2.2.2.1.2, (hkb z).2.2.2.2.2.1, (hkb z).2.2.2.2.2.2⟩
  have hpb := mul9 (m := m4 - m5 - 2) hti (by omega)
  have jn63 : ∀ (b ba : Int) (E : Nat → va_E) (hst : (b ≠ 0 ∧ ∀ g' : Int → Int, PD r tb m0 z0 3 mg ti b ba m4 m5 m7 m8 m9 m10 g' ma) ∨ (b = 0 ∧ m2 = 0 ∧ m6 = 4 ∧ g 243 + ti * (m4 - m5 - 2) ≤ 60)) (hM : E 78 = .inr (9, [.ref (ad 79), .ref (ad 80), .int (jI m0), .int (jI m1), .int (jI b), .int (jI ba), .int (jI m4), .int (jI m5), .int (jI m6), .int (jI m7), .int (jI m8), .int (jI m9), .int (jI m10), .int (jI m11), .ref (ad 81), .ref (ad 82), .ref (ad 83), .ref (ad 84), .ref (ad 85), .ref (ad 86), .ref (ad 87), .ref (ad 88), .ref (ad 89), .int (jI m12), .int (jI m13), .ref (ad 90), .ref (ad 91), .ref (ad 92), .ref (ad 93), .ref (ad 94), .int (jI m14)])) (hTp : E 80 = aI Γ 160 tb) (hS : E 79 = aI Γ 305 g) (hF : ∀ j : Nat, j ≠ 78 ∧ j ≠ 79 → E j = E0 j), J l Γ Ω 5 ad 95 0 0 E 63 [some (.ref (ad 78)), some (.int (jI ti)), some (.int (jI (m4 - m5 - 2))), some (.int (jI (g 243))), none] [] := by
    intro b ba E hst hM hTp hS hF
    have hb5 : 0 ≤ b ∧ b ≤ 5 := by
      rcases hst with z | z
      · exact (z.2 g).1
      · omega
    refine J_iconst (q := 64) X dX10_signsRead_63 rfl ?_
    refine J_istore (q := 66) X dX10_signsRead_64 (by decide) rfl rfl ?_
    have lp66 : ∀ (mm : Nat) (kk : Int) (gg : Int → Int) (E : Nat → va_E) (hkk : 0 ≤ kk ∧ (b = 0 → kk = 0 ∨ kk ≤ ti * (m4 - m5 - 2)) ∧ (b ≠ 0 → kk = 0)) (hgg : ∀ j : Int, gg j = if 183 + g 243 ≤ j ∧ j < 183 + g 243 + kk then tb (m5 + 1 + (j - 183 - g 243) % (m4 - m5 - 2)) else g j) (hM : E 78 = .inr (9, [.ref (ad 79), .ref (ad 80), .int (jI m0), .int (jI m1), .int (jI b), .int (jI ba), .int (jI m4), .int (jI m5), .int (jI m6), .int (jI m7), .int (jI m8), .int (jI m9), .int (jI m10), .int (jI m11), .ref (ad 81), .ref (ad 82), .ref (ad 83), .ref (ad 84), .ref (ad 85), .ref (ad 86), .ref (ad 87), .ref (ad 88), .ref (ad 89), .int (jI m12), .int (jI m13), .ref (ad 90), .ref (ad 91), .ref (ad 92), .ref (ad 93), .ref (ad 94), .int (jI m14)])) (hTp : E 80 = aI Γ 160 tb) (hS : E 79 = aI Γ 305 gg) (hF : ∀ j : Nat, j ≠ 78 ∧ j ≠ 79 → E j = E0 j) (hmm : ti * (m4 - m5 - 2) - kk + 5000 ≤ (mm : Int)), J l Γ Ω 5 ad 95 0 0 E 66 [some (.ref (ad 78)), some (.int (jI ti)), some (.int (jI (m4 - m5 - 2))), some (.int (jI (g 243))), some (.int (jI kk))] [] := by
      intro mm
      induction mm with
      | zero => intro kk gg E hkk hgg hM hTp hS hF hmm; exfalso; omega
      | succ mm ih66 =>
        intro kk gg E hkk hgg hM hTp hS hF hmm
        refine J_iload (q := 68) X dX10_signsRead_66 rfl rfl ?_
        refine J_iload_n (q := 69) X dX10_signsRead_68 rfl rfl ?_
        refine J_iload_n (q := 70) X dX10_signsRead_69 rfl rfl ?_
        refine J_imul (q := 71) X dX10_signsRead_70 rfl ?_
        refine J_icmp_ge (q := 74) (tgt := 115) X dX10_signsRead_71 (by decide) rfl (by omega) (by omega) (fun cq71 => ?_) (fun cq71 => ?_)
        · refine J_aload_n (q := 116) X dX10_signsRead_115 rfl rfl ?_
          refine J_get (q := 119) X dX10_signsRead_116 fX10_69 hM (by omega) rfl rfl ?_
          refine J_if_ne (q := 122) (tgt := 135) X dX10_signsRead_119 (by decide) rfl (by omega) (fun cq119 => ?_) (fun cq119 => ?_)
          · first
              | (have hb0 : b ≠ 0 := cq119
                 have hpd2 := (hst.resolve_right (fun z => hb0 z.1)).2 gg
                 have hfr2 : ∀ j, j < 183 ∨ 244 ≤ j → gg j = g j := fun j hj => by rw [hgg j, if_neg (by omega)]
                 rw [show m9 = (if b = 0 then m9 + 1 else m9) from (if_neg hb0).symm] at hpd2)
              | (have hz : m2 = 0 ∧ m6 = 4 ∧ g 243 + ti * (m4 - m5 - 2) ≤ 60 := (hst.resolve_left (fun z => z.1 cq119)).2
                 obtain ⟨hq1, hq2, hq3, -, -, hq6⟩ := hkb hz.1
                 have hq2' := hq2 (by omega)
                 have hq3' := hq3 hz.2.1
                 have hpp : 0 ≤ ti * (m4 - m5 - 2) := Int.mul_nonneg (by omega) (by omega)
                 have hke : kk = ti * (m4 - m5 - 2) := by omega
                 have htq0 := htq
                 rw [hz.1] at htq0
                 have hnt : nT m5 m4 4 ti (g 243) = g 243 + ti * (m4 - m5 - 2) := by unfold nT; rw [if_pos rfl, show m4 - m5 - 2 = m4 - m5 - 2 from rfl]
                 have hgo := TQ_go (ba' := ba) (h' := m5) (v' := m7) (y' := m10) (g' := iu gg 243 (g 243 + ti * (m4 - m5 - 2))) htq0 hz.2.1 (by omega) (by omega) (fun _ => hti.1) (by unfold fT; rw [if_neg (by decide), if_neg (by decide), if_pos rfl, if_pos (by unfold okC; omega)]) (by rw [hnt]; exact if_pos rfl) (fun j p q => by
                   rw [hnt] at q
                   show (if _ then _ else _) = _
                   rw [if_neg (by omega), hgg]
                   by_cases e : g 243 ≤ j
                   · rw [if_pos (by omega), if_pos ⟨rfl, e⟩, show 183 + j - 183 - g 243 = j - g 243 by omega]
                   · rw [if_neg (by omega), if_neg (fun z => e z.2)])
                 have e1 : xT tb m5 m4 4 mg = 3 := rfl
                 have e2 : mkT tb m5 m4 4 mg = mg := rfl
                 have e3 : tiT m7 4 mg ti = ti := by unfold tiT; rw [if_neg (by decide), if_neg (fun z => by have z1 := z.1; omega)]
                 have e4 : maT m7 4 mg ma = ma := by unfold maT; rw [if_neg (fun z => by have z1 := z.1; omega)]
                 have e5 : lnT 4 m8 = m8 := rfl
                 have e6 : tkT 4 m9 = m9 + 1 := rfl
                 rw [e1, e2, e3, e4, e5, e6] at hgo
                 have hpd2 := PD_lo (z0' := z0) (by omega) hgo
                 have hfr2 : ∀ j, j < 183 ∨ 244 ≤ j → iu gg 243 (g 243 + ti * (m4 - m5 - 2)) j = g j := fun j hj => by
                   show (if _ then _ else _) = _
                   rw [if_neg (by omega), hgg j, if_neg (by omega)]
                 have hb0 : b = 0 := cq119
                 subst hb0
                 rw [show m9 + 1 = (if (0 : Int) = 0 then m9 + 1 else m9) from (if_pos rfl).symm] at hpd2)
            refine J_aload_n (q := 136) X dX10_signsRead_135 rfl rfl ?_
            refine J_callV (q := 139) (jrV X mX10_125 dX10_signsRead_136 (c_X10_takes hM hTp htb hpd2) hM (by omega) rfl rfl rfl rfl (Nat.le_of_ble_eq_true rfl) (by decide)) rfl (fun Ew136 hpq136 => ?_)
            obtain ⟨bq136, baq136, sq136, hq136, kq136, vq136, yq136, qq136, kM, htq136, hbrq136, hsq136⟩ := hpq136
            replace hM := kM
            replace hS := (hsq136 79 (by omega)).trans hS
            replace hTp := (hsq136 80 (by omega)).trans hTp
            replace hF : ∀ j : Nat, j ≠ 78 ∧ j ≠ 79 → Ew136 j = E0 j := fun j hj => (hsq136 j (by omega)).trans (hF j hj)
            refine J_vret X R dX10_signsRead_139 ?_
            rw [hE0] at hF
            exact ⟨rfl, _, _, _, _, _, _, _, _, _, _, hM, hS, hfr2, htq136, hF⟩
          · refine J_aload_n (q := 123) X dX10_signsRead_122 rfl rfl ?_
            refine J_get (q := 126) X dX10_signsRead_123 fX10_7 hM (by omega) rfl rfl ?_
            refine J_sipush (q := 129) X dX10_signsRead_126 rfl (by decide) ?_
            refine J_iload_n (q := 130) X dX10_signsRead_129 rfl rfl ?_
            refine J_iload_n (q := 131) X dX10_signsRead_130 rfl rfl ?_
            refine J_iload_n (q := 132) X dX10_signsRead_131 rfl rfl ?_
            refine J_imul (q := 133) X dX10_signsRead_132 rfl ?_
            refine J_iadd (q := 134) X dX10_signsRead_133 rfl ?_
            refine J_iast (q := 135) X dX10_signsRead_134 hS (by omega) (by omega) (by decide) rfl (fun Ew134 hkq134 hsq134 => ?_)
            replace hS := hkq134
            replace hM := (hsq134 78 (by omega)).trans hM
            replace hTp := (hsq134 80 (by omega)).trans hTp
            replace hF : ∀ j : Nat, j ≠ 78 ∧ j ≠ 79 → Ew134 j = E0 j := fun j hj => (hsq134 j (by omega)).trans (hF j hj)
            first
              | (have hb0 : b ≠ 0 := cq119
                 have hpd2 := (hst.resolve_right (fun z => hb0 z.1)).2 gg
                 have hfr2 : ∀ j, j < 183 ∨ 244 ≤ j → gg j = g j := fun j hj => by rw [hgg j, if_neg (by omega)]
                 rw [show m9 = (if b = 0 then m9 + 1 else m9) from (if_neg hb0).symm] at hpd2)
              | (have hz : m2 = 0 ∧ m6 = 4 ∧ g 243 + ti * (m4 - m5 - 2) ≤ 60 := (hst.resolve_left (fun z => z.1 cq119)).2
                 obtain ⟨hq1, hq2, hq3, -, -, hq6⟩ := hkb hz.1
                 have hq2' := hq2 (by omega)
                 have hq3' := hq3 hz.2.1
                 have hpp : 0 ≤ ti * (m4 - m5 - 2) := Int.mul_nonneg (by omega) (by omega)
                 have hke : kk = ti * (m4 - m5 - 2) := by omega
                 have htq0 := htq
                 rw [hz.1] at htq0
                 have hnt : nT m5 m4 4 ti (g 243) = g 243 + ti * (m4 - m5 - 2) := by unfold nT; rw [if_pos rfl, show m4 - m5 - 2 = m4 - m5 - 2 from rfl]
                 have hgo := TQ_go (ba' := ba) (h' := m5) (v' := m7) (y' := m10) (g' := iu gg 243 (g 243 + ti * (m4 - m5 - 2))) htq0 hz.2.1 (by omega) (by omega) (fun _ => hti.1) (by unfold fT; rw [if_neg (by decide), if_neg (by decide), if_pos rfl, if_pos (by unfold okC; omega)]) (by rw [hnt]; exact if_pos rfl) (fun j p q => by
                   rw [hnt] at q
                   show (if _ then _ else _) = _
                   rw [if_neg (by omega), hgg]
                   by_cases e : g 243 ≤ j
                   · rw [if_pos (by omega), if_pos ⟨rfl, e⟩, show 183 + j - 183 - g 243 = j - g 243 by omega]
                   · rw [if_neg (by omega), if_neg (fun z => e z.2)])
                 have e1 : xT tb m5 m4 4 mg = 3 := rfl
                 have e2 : mkT tb m5 m4 4 mg = mg := rfl
                 have e3 : tiT m7 4 mg ti = ti := by unfold tiT; rw [if_neg (by decide), if_neg (fun z => by have z1 := z.1; omega)]
                 have e4 : maT m7 4 mg ma = ma := by unfold maT; rw [if_neg (fun z => by have z1 := z.1; omega)]
                 have e5 : lnT 4 m8 = m8 := rfl
                 have e6 : tkT 4 m9 = m9 + 1 := rfl
                 rw [e1, e2, e3, e4, e5, e6] at hgo
                 have hpd2 := PD_lo (z0' := z0) (by omega) hgo
                 have hfr2 : ∀ j, j < 183 ∨ 244 ≤ j → iu gg 243 (g 243 + ti * (m4 - m5 - 2)) j = g j := fun j hj => by
                   show (if _ then _ else _) = _
                   rw [if_neg (by omega), hgg j, if_neg (by omega)]
                 have hb0 : b = 0 := cq119
                 subst hb0
                 rw [show m9 + 1 = (if (0 : Int) = 0 then m9 + 1 else m9) from (if_pos rfl).symm] at hpd2)
            refine J_aload_n (q := 136) X dX10_signsRead_135 rfl rfl ?_
            refine J_callV (q := 139) (jrV X mX10_125 dX10_signsRead_136 (c_X10_takes hM hTp htb hpd2) hM (by omega) rfl rfl rfl rfl (Nat.le_of_ble_eq_true rfl) (by decide)) rfl (fun Ew136 hpq136 => ?_)
            obtain ⟨bq136, baq136, sq136, hq136, kq136, vq136, yq136, qq136, kM, htq136, hbrq136, hsq136⟩ := hpq136
            replace hM := kM
            replace hS := (hsq136 79 (by omega)).trans hS
            replace hTp := (hsq136 80 (by omega)).trans hTp
            replace hF : ∀ j : Nat, j ≠ 78 ∧ j ≠ 79 → Ew136 j = E0 j := fun j hj => (hsq136 j (by omega)).trans (hF j hj)
            refine J_vret X R dX10_signsRead_139 ?_
            rw [hE0] at hF
            exact ⟨rfl, _, _, _, _, _, _, _, _, _, _, hM, hS, hfr2, htq136, hF⟩
        · refine J_aload_n (q := 75) X dX10_signsRead_74 rfl rfl ?_
          refine J_get (q := 78) X dX10_signsRead_75 fX10_69 hM (by omega) rfl rfl ?_
          refine J_if_ne (q := 81) (tgt := 115) X dX10_signsRead_78 (by decide) rfl (by omega) (fun cq78 => ?_) (fun cq78 => ?_)
          · refine J_aload_n (q := 116) X dX10_signsRead_115 rfl rfl ?_
            refine J_get (q := 119) X dX10_signsRead_116 fX10_69 hM (by omega) rfl rfl ?_
            refine J_if_ne (q := 122) (tgt := 135) X dX10_signsRead_119 (by decide) rfl (by omega) (fun cq119 => ?_) (fun cq119 => ?_)
            · first
                | (have hb0 : b ≠ 0 := cq119
                   have hpd2 := (hst.resolve_right (fun z => hb0 z.1)).2 gg
                   have hfr2 : ∀ j, j < 183 ∨ 244 ≤ j → gg j = g j := fun j hj => by rw [hgg j, if_neg (by omega)]
                   rw [show m9 = (if b = 0 then m9 + 1 else m9) from (if_neg hb0).symm] at hpd2)
                | (have hz : m2 = 0 ∧ m6 = 4 ∧ g 243 + ti * (m4 - m5 - 2) ≤ 60 := (hst.resolve_left (fun z => z.1 cq119)).2
                   obtain ⟨hq1, hq2, hq3, -, -, hq6⟩ := hkb hz.1
                   have hq2' := hq2 (by omega)
                   have hq3' := hq3 hz.2.1
                   have hpp : 0 ≤ ti * (m4 - m5 - 2) := Int.mul_nonneg (by omega) (by omega)
                   have hke : kk = ti * (m4 - m5 - 2) := by omega
                   have htq0 := htq
                   rw [hz.1] at htq0
                   have hnt : nT m5 m4 4 ti (g 243) = g 243 + ti * (m4 - m5 - 2) := by unfold nT; rw [if_pos rfl, show m4 - m5 - 2 = m4 - m5 - 2 from rfl]
                   have hgo := TQ_go (ba' := ba) (h' := m5) (v' := m7) (y' := m10) (g' := iu gg 243 (g 243 + ti * (m4 - m5 - 2))) htq0 hz.2.1 (by omega) (by omega) (fun _ => hti.1) (by unfold fT; rw [if_neg (by decide), if_neg (by decide), if_pos rfl, if_pos (by unfold okC; omega)]) (by rw [hnt]; exact if_pos rfl) (fun j p q => by
                     rw [hnt] at q
                     show (if _ then _ else _) = _
                     rw [if_neg (by omega), hgg]
                     by_cases e : g 243 ≤ j
                     · rw [if_pos (by omega), if_pos ⟨rfl, e⟩, show 183 + j - 183 - g 243 = j - g 243 by omega]
                     · rw [if_neg (by omega), if_neg (fun z => e z.2)])
                   have e1 : xT tb m5 m4 4 mg = 3 := rfl
                   have e2 : mkT tb m5 m4 4 mg = mg := rfl
                   have e3 : tiT m7 4 mg ti = ti := by unfold tiT; rw [if_neg (by decide), if_neg (fun z => by have z1 := z.1; omega)]
                   have e4 : maT m7 4 mg ma = ma := by unfold maT; rw [if_neg (fun z => by have z1 := z.1; omega)]
                   have e5 : lnT 4 m8 = m8 := rfl
                   have e6 : tkT 4 m9 = m9 + 1 := rfl
                   rw [e1, e2, e3, e4, e5, e6] at hgo
                   have hpd2 := PD_lo (z0' := z0) (by omega) hgo
                   have hfr2 : ∀ j, j < 183 ∨ 244 ≤ j → iu gg 243 (g 243 + ti * (m4 - m5 - 2)) j = g j := fun j hj => by
                     show (if _ then _ else _) = _
                     rw [if_neg (by omega), hgg j, if_neg (by omega)]
                   have hb0 : b = 0 := cq119
                   subst hb0
                   rw [show m9 + 1 = (if (0 : Int) = 0 then m9 + 1 else m9) from (if_pos rfl).symm] at hpd2)
              refine J_aload_n (q := 136) X dX10_signsRead_135 rfl rfl ?_
              refine J_callV (q := 139) (jrV X mX10_125 dX10_signsRead_136 (c_X10_takes hM hTp htb hpd2) hM (by omega) rfl rfl rfl rfl (Nat.le_of_ble_eq_true rfl) (by decide)) rfl (fun Ew136 hpq136 => ?_)
              obtain ⟨bq136, baq136, sq136, hq136, kq136, vq136, yq136, qq136, kM, htq136, hbrq136, hsq136⟩ := hpq136
              replace hM := kM
              replace hS := (hsq136 79 (by omega)).trans hS
              replace hTp := (hsq136 80 (by omega)).trans hTp
              replace hF : ∀ j : Nat, j ≠ 78 ∧ j ≠ 79 → Ew136 j = E0 j := fun j hj => (hsq136 j (by omega)).trans (hF j hj)
              refine J_vret X R dX10_signsRead_139 ?_
              rw [hE0] at hF
              exact ⟨rfl, _, _, _, _, _, _, _, _, _, _, hM, hS, hfr2, htq136, hF⟩
            · refine J_aload_n (q := 123) X dX10_signsRead_122 rfl rfl ?_
              refine J_get (q := 126) X dX10_signsRead_123 fX10_7 hM (by omega) rfl rfl ?_
              refine J_sipush (q := 129) X dX10_signsRead_126 rfl (by decide) ?_
              refine J_iload_n (q := 130) X dX10_signsRead_129 rfl rfl ?_
              refine J_iload_n (q := 131) X dX10_signsRead_130 rfl rfl ?_
              refine J_iload_n (q := 132) X dX10_signsRead_131 rfl rfl ?_
              refine J_imul (q := 133) X dX10_signsRead_132 rfl ?_
              refine J_iadd (q := 134) X dX10_signsRead_133 rfl ?_
              refine J_iast (q := 135) X dX10_signsRead_134 hS (by omega) (by omega) (by decide) rfl (fun Ew134 hkq134 hsq134 => ?_)
              replace hS := hkq134
              replace hM := (hsq134 78 (by omega)).trans hM
              replace hTp := (hsq134 80 (by omega)).trans hTp
              replace hF : ∀ j : Nat, j ≠ 78 ∧ j ≠ 79 → Ew134 j = E0 j := fun j hj => (hsq134 j (by omega)).trans (hF j hj)
              first
                | (have hb0 : b ≠ 0 := cq119
                   have hpd2 := (hst.resolve_right (fun z => hb0 z.1)).2 gg
                   have hfr2 : ∀ j, j < 183 ∨ 244 ≤ j → gg j = g j := fun j hj => by rw [hgg j, if_neg (by omega)]
                   rw [show m9 = (if b = 0 then m9 + 1 else m9) from (if_neg hb0).symm] at hpd2)
                | (have hz : m2 = 0 ∧ m6 = 4 ∧ g 243 + ti * (m4 - m5 - 2) ≤ 60 := (hst.resolve_left (fun z => z.1 cq119)).2
                   obtain ⟨hq1, hq2, hq3, -, -, hq6⟩ := hkb hz.1
                   have hq2' := hq2 (by omega)
                   have hq3' := hq3 hz.2.1
                   have hpp : 0 ≤ ti * (m4 - m5 - 2) := Int.mul_nonneg (by omega) (by omega)
                   have hke : kk = ti * (m4 - m5 - 2) := by omega
                   have htq0 := htq
                   rw [hz.1] at htq0
                   have hnt : nT m5 m4 4 ti (g 243) = g 243 + ti * (m4 - m5 - 2) := by unfold nT; rw [if_pos rfl, show m4 - m5 - 2 = m4 - m5 - 2 from rfl]
                   have hgo := TQ_go (ba' := ba) (h' := m5) (v' := m7) (y' := m10) (g' := iu gg 243 (g 243 + ti * (m4 - m5 - 2))) htq0 hz.2.1 (by omega) (by omega) (fun _ => hti.1) (by unfold fT; rw [if_neg (by decide), if_neg (by decide), if_pos rfl, if_pos (by unfold okC; omega)]) (by rw [hnt]; exact if_pos rfl) (fun j p q => by
                     rw [hnt] at q
                     show (if _ then _ else _) = _
                     rw [if_neg (by omega), hgg]
                     by_cases e : g 243 ≤ j
                     · rw [if_pos (by omega), if_pos ⟨rfl, e⟩, show 183 + j - 183 - g 243 = j - g 243 by omega]
                     · rw [if_neg (by omega), if_neg (fun z => e z.2)])
                   have e1 : xT tb m5 m4 4 mg = 3 := rfl
                   have e2 : mkT tb m5 m4 4 mg = mg := rfl
                   have e3 : tiT m7 4 mg ti = ti := by unfold tiT; rw [if_neg (by decide), if_neg (fun z => by have z1 := z.1; omega)]
                   have e4 : maT m7 4 mg ma = ma := by unfold maT; rw [if_neg (fun z => by have z1 := z.1; omega)]
                   have e5 : lnT 4 m8 = m8 := rfl
                   have e6 : tkT 4 m9 = m9 + 1 := rfl
                   rw [e1, e2, e3, e4, e5, e6] at hgo
                   have hpd2 := PD_lo (z0' := z0) (by omega) hgo
                   have hfr2 : ∀ j, j < 183 ∨ 244 ≤ j → iu gg 243 (g 243 + ti * (m4 - m5 - 2)) j = g j := fun j hj => by
                     show (if _ then _ else _) = _
                     rw [if_neg (by omega), hgg j, if_neg (by omega)]
                   have hb0 : b = 0 := cq119
                   subst hb0
                   rw [show m9 + 1 = (if (0 : Int) = 0 then m9 + 1 else m9) from (if_pos rfl).symm] at hpd2)
              refine J_aload_n (q := 136) X dX10_signsRead_135 rfl rfl ?_
              refine J_callV (q := 139) (jrV X mX10_125 dX10_signsRead_136 (c_X10_takes hM hTp htb hpd2) hM (by omega) rfl rfl rfl rfl (Nat.le_of_ble_eq_true rfl) (by decide)) rfl (fun Ew136 hpq136 => ?_)
              obtain ⟨bq136, baq136, sq136, hq136, kq136, vq136, yq136, qq136, kM, htq136, hbrq136, hsq136⟩ := hpq136
              replace hM := kM
              replace hS := (hsq136 79 (by omega)).trans hS
              replace hTp := (hsq136 80 (by omega)).trans hTp
              replace hF : ∀ j : Nat, j ≠ 78 ∧ j ≠ 79 → Ew136 j = E0 j := fun j hj => (hsq136 j (by omega)).trans (hF j hj)
              refine J_vret X R dX10_signsRead_139 ?_
              rw [hE0] at hF
              exact ⟨rfl, _, _, _, _, _, _, _, _, _, _, hM, hS, hfr2, htq136, hF⟩
          · have hz : m2 = 0 ∧ m6 = 4 ∧ g 243 + ti * (m4 - m5 - 2) ≤ 60 := (hst.resolve_left (fun z => z.1 cq78)).2
            obtain ⟨hq1, hq2, hq3, -, -, hq6⟩ := hkb hz.1
            have hq2' := hq2 (by omega)
            have hq3' := hq3 hz.2.1
            have hmp : 0 < m4 - m5 - 2 := by
              by_cases e : m4 - m5 - 2 = 0
              · rw [e, Int.mul_zero] at cq71; omega
              · omega
            have hm1 := Int.emod_nonneg kk (b := m4 - m5 - 2) (by omega)
            have hm2 := Int.emod_lt_of_pos kk (b := m4 - m5 - 2) hmp
            refine J_aload_n (q := 82) X dX10_signsRead_81 rfl rfl ?_
            refine J_get (q := 85) X dX10_signsRead_82 fX10_7 hM (by omega) rfl rfl ?_
            refine J_sipush (q := 88) X dX10_signsRead_85 rfl (by decide) ?_
            refine J_iload_n (q := 89) X dX10_signsRead_88 rfl rfl ?_
            refine J_iadd (q := 90) X dX10_signsRead_89 rfl ?_
            refine J_iload (q := 92) X dX10_signsRead_90 rfl rfl ?_
            refine J_iadd (q := 93) X dX10_signsRead_92 rfl ?_
            refine J_aload_n (q := 94) X dX10_signsRead_93 rfl rfl ?_
            refine J_aload_n (q := 95) X dX10_signsRead_94 rfl rfl ?_
            refine J_get (q := 98) X dX10_signsRead_95 fX10_72 hM (by omega) rfl rfl ?_
            refine J_iconst (q := 99) X dX10_signsRead_98 rfl ?_
            refine J_iadd (q := 100) X dX10_signsRead_99 rfl ?_
            refine J_iload (q := 102) X dX10_signsRead_100 rfl rfl ?_
            refine J_iload_n (q := 103) X dX10_signsRead_102 rfl rfl ?_
            refine J_irem (q := 104) X dX10_signsRead_103 rfl (by omega) (by omega) ?_
            refine J_iadd (q := 105) X dX10_signsRead_104 rfl ?_
            refine J_callP (q := 108) (jrV X mX10_92 dX10_signsRead_105 (c_X10_byteAt hM hTp htb (by omega)) hM (by omega) rfl rfl rfl rfl (Nat.le_of_ble_eq_true rfl) (by decide)) rfl ?_
            refine J_iast (q := 109) X dX10_signsRead_108 hS (by omega) (by omega) (by decide) rfl (fun Ew108 hkq108 hsq108 => ?_)
            replace hS := hkq108
            replace hM := (hsq108 78 (by omega)).trans hM
            replace hTp := (hsq108 80 (by omega)).trans hTp
            replace hF : ∀ j : Nat, j ≠ 78 ∧ j ≠ 79 → Ew108 j = E0 j := fun j hj => (hsq108 j (by omega)).trans (hF j hj)
            refine J_iinc (q := 112) X dX10_signsRead_109 rfl (by decide) rfl rfl ?_
            refine J_goto (q := 66) X dX10_signsRead_112 (by decide) ?_
            have hbe : bt tb m0 (m5 + 1 + kk % (m4 - m5 - 2)) = tb (m5 + 1 + kk % (m4 - m5 - 2)) := if_pos (by omega)
            rw [hbe] at hS
            refine ih66 _ _ _ (by omega) (fun j => ?_) hM hTp hS hF (by omega)
            show (if _ then _ else _) = _
            by_cases e : j = 183 + g 243 + kk
            · rw [if_pos e, if_pos (by omega), e, show 183 + g 243 + kk - 183 - g 243 = kk by omega]
            · rw [if_neg e, hgg]
              by_cases e2 : 183 + g 243 ≤ j ∧ j < 183 + g 243 + kk
              · rw [if_pos e2, if_pos (by omega)]
              · rw [if_neg e2, if_neg (by omega)]
    exact lp66 10000 _ _ _ (by omega) (fun j => by rw [if_neg (by omega)]) hM hTp hS hF (by omega)
  refine J_aload_n (q := 1) X dX10_signsRead_0 rfl rfl ?_
  refine J_get (q := 4) X dX10_signsRead_1 fX10_69 hM (by omega) rfl rfl ?_
  refine J_if_ne (q := 7) (tgt := 20) X dX10_signsRead_4 (by decide) rfl (by omega) (fun cq4 => ?_) (fun cq4 => ?_)
  · refine J_aload_n (q := 21) X dX10_signsRead_20 rfl rfl ?_
    refine J_get (q := 24) X dX10_signsRead_21 fX10_89 hM (by omega) rfl rfl ?_
    refine J_aload_n (q := 25) X dX10_signsRead_24 rfl rfl ?_
    refine J_get (q := 28) X dX10_signsRead_25 fX10_72 hM (by omega) rfl rfl ?_
    refine J_isub (q := 29) X dX10_signsRead_28 rfl ?_
    refine J_iconst (q := 30) X dX10_signsRead_29 rfl ?_
    refine J_isub (q := 31) X dX10_signsRead_30 rfl ?_
    refine J_istore_n (q := 32) X dX10_signsRead_31 (by decide) rfl rfl ?_
    refine J_aload_n (q := 33) X dX10_signsRead_32 rfl rfl ?_
    refine J_get (q := 36) X dX10_signsRead_33 fX10_7 hM (by omega) rfl rfl ?_
    refine J_sipush (q := 39) X dX10_signsRead_36 rfl (by decide) ?_
    refine J_iald (q := 40) X dX10_signsRead_39 hS (by omega) (by omega) (by decide) rfl ?_
    refine J_istore_n (q := 41) X dX10_signsRead_40 (by decide) rfl rfl ?_
    refine J_aload_n (q := 42) X dX10_signsRead_41 rfl rfl ?_
    refine J_get (q := 45) X dX10_signsRead_42 fX10_69 hM (by omega) rfl rfl ?_
    refine J_if_ne (q := 48) (tgt := 63) X dX10_signsRead_45 (by decide) rfl (by omega) (fun cq45 => ?_) (fun cq45 => ?_)
    · first
        | exact jn63 _ _ _ (Or.inr ⟨by omega, by omega, by omega, by omega⟩) hM hTp hS hF
        | exact jn63 _ _ _ (Or.inl ⟨by omega, fun g' => TQ_br (by omega) htq⟩) hM hTp hS hF
        | exact jn63 _ _ _ (Or.inl ⟨by omega, fun g' => TQ_ne htq (by omega) (by omega)⟩) hM hTp hS hF
        | exact jn63 _ _ _ (Or.inl ⟨by omega, fun g' => TQ_bad htq (by omega) (by omega) (by unfold fT; rw [if_neg (by decide), if_neg (by decide), if_pos rfl, if_neg (by unfold okC; omega)]) (by omega)⟩) hM hTp hS hF
    · exfalso; omega
  · refine J_aload_n (q := 8) X dX10_signsRead_7 rfl rfl ?_
    refine J_get (q := 11) X dX10_signsRead_8 fX10_86 hM (by omega) rfl rfl ?_
    refine J_iconst (q := 12) X dX10_signsRead_11 rfl ?_
    refine J_icmp_eq (q := 15) (tgt := 20) X dX10_signsRead_12 (by decide) rfl (by have := hkb6 (by omega); omega) (by omega) (fun cq12 => ?_) (fun cq12 => ?_)
    · refine J_aload_n (q := 21) X dX10_signsRead_20 rfl rfl ?_
      refine J_get (q := 24) X dX10_signsRead_21 fX10_89 hM (by omega) rfl rfl ?_
      refine J_aload_n (q := 25) X dX10_signsRead_24 rfl rfl ?_
      refine J_get (q := 28) X dX10_signsRead_25 fX10_72 hM (by omega) rfl rfl ?_
      refine J_isub (q := 29) X dX10_signsRead_28 rfl ?_
      refine J_iconst (q := 30) X dX10_signsRead_29 rfl ?_
      refine J_isub (q := 31) X dX10_signsRead_30 rfl ?_
      refine J_istore_n (q := 32) X dX10_signsRead_31 (by decide) rfl rfl ?_
      refine J_aload_n (q := 33) X dX10_signsRead_32 rfl rfl ?_
      refine J_get (q := 36) X dX10_signsRead_33 fX10_7 hM (by omega) rfl rfl ?_
      refine J_sipush (q := 39) X dX10_signsRead_36 rfl (by decide) ?_
      refine J_iald (q := 40) X dX10_signsRead_39 hS (by omega) (by omega) (by decide) rfl ?_
      refine J_istore_n (q := 41) X dX10_signsRead_40 (by decide) rfl rfl ?_
      refine J_aload_n (q := 42) X dX10_signsRead_41 rfl rfl ?_
      refine J_get (q := 45) X dX10_signsRead_42 fX10_69 hM (by omega) rfl rfl ?_
      refine J_if_ne (q := 48) (tgt := 63) X dX10_signsRead_45 (by decide) rfl (by omega) (fun cq45 => ?_) (fun cq45 => ?_)
      · first
          | exact jn63 _ _ _ (Or.inr ⟨by omega, by omega, by omega, by omega⟩) hM hTp hS hF
          | exact jn63 _ _ _ (Or.inl ⟨by omega, fun g' => TQ_br (by omega) htq⟩) hM hTp hS hF
          | exact jn63 _ _ _ (Or.inl ⟨by omega, fun g' => TQ_ne htq (by omega) (by omega)⟩) hM hTp hS hF
          | exact jn63 _ _ _ (Or.inl ⟨by omega, fun g' => TQ_bad htq (by omega) (by omega) (by unfold fT; rw [if_neg (by decide), if_neg (by decide), if_pos rfl, if_neg (by unfold okC; omega)]) (by omega)⟩) hM hTp hS hF
      · refine J_iload_n (q := 49) X dX10_signsRead_48 rfl rfl ?_
        refine J_iload_n (q := 50) X dX10_signsRead_49 rfl rfl ?_
        refine J_iload_n (q := 51) X dX10_signsRead_50 rfl rfl ?_
        refine J_imul (q := 52) X dX10_signsRead_51 rfl ?_
        refine J_iadd (q := 53) X dX10_signsRead_52 rfl ?_
        refine J_bipush (q := 55) X dX10_signsRead_53 rfl (by decide) ?_
        refine J_icmp_le (q := 58) (tgt := 63) X dX10_signsRead_55 (by decide) rfl (by have := hkb6 (by omega); omega) (by omega) (fun cq55 => ?_) (fun cq55 => ?_)
        · first
            | exact jn63 _ _ _ (Or.inr ⟨by omega, by omega, by omega, by omega⟩) hM hTp hS hF
            | exact jn63 _ _ _ (Or.inl ⟨by omega, fun g' => TQ_br (by omega) htq⟩) hM hTp hS hF
            | exact jn63 _ _ _ (Or.inl ⟨by omega, fun g' => TQ_ne htq (by omega) (by omega)⟩) hM hTp hS hF
            | exact jn63 _ _ _ (Or.inl ⟨by omega, fun g' => TQ_bad htq (by omega) (by omega) (by unfold fT; rw [if_neg (by decide), if_neg (by decide), if_pos rfl, if_neg (by unfold okC; omega)]) (by omega)⟩) hM hTp hS hF
        · refine J_aload_n (q := 59) X dX10_signsRead_58 rfl rfl ?_
          refine J_iconst (q := 60) X dX10_signsRead_59 rfl ?_
          refine J_callV (q := 63) (jrV X mX10_105 dX10_signsRead_60 (c_X10_fails hM (by omega)) hM (by omega) rfl rfl rfl rfl (Nat.le_of_ble_eq_true rfl) (by decide)) rfl (fun Ew60 hpq60 => ?_)
          obtain ⟨kM, hsq60⟩ := hpq60
          replace hM := kM
          have hnb : m2 = 0 := cq4
          subst hnb
          rw [if_pos rfl, if_pos rfl] at hM
          replace hS := (hsq60 79 (by omega)).trans hS
          replace hTp := (hsq60 80 (by omega)).trans hTp
          replace hF : ∀ j : Nat, j ≠ 78 ∧ j ≠ 79 → Ew60 j = E0 j := fun j hj => (hsq60 j (by omega)).trans (hF j hj)
          first
            | exact jn63 _ _ _ (Or.inr ⟨by omega, by omega, by omega, by omega⟩) hM hTp hS hF
            | exact jn63 _ _ _ (Or.inl ⟨by omega, fun g' => TQ_br (by omega) htq⟩) hM hTp hS hF
            | exact jn63 _ _ _ (Or.inl ⟨by omega, fun g' => TQ_ne htq (by omega) (by omega)⟩) hM hTp hS hF
            | exact jn63 _ _ _ (Or.inl ⟨by omega, fun g' => TQ_bad htq (by omega) (by omega) (by unfold fT; rw [if_neg (by decide), if_neg (by decide), if_pos rfl, if_neg (by unfold okC; omega)]) (by omega)⟩) hM hTp hS hF
    · refine J_aload_n (q := 16) X dX10_signsRead_15 rfl rfl ?_
      refine J_iconst (q := 17) X dX10_signsRead_16 rfl ?_
      refine J_callV (q := 20) (jrV X mX10_105 dX10_signsRead_17 (c_X10_fails hM (by omega)) hM (by omega) rfl rfl rfl rfl (Nat.le_of_ble_eq_true rfl) (by decide)) rfl (fun Ew17 hpq17 => ?_)
      obtain ⟨kM, hsq17⟩ := hpq17
      replace hM := kM
      have hnb : m2 = 0 := cq4
      subst hnb
      rw [if_pos rfl, if_pos rfl] at hM
      replace hS := (hsq17 79 (by omega)).trans hS
      replace hTp := (hsq17 80 (by omega)).trans hTp
      replace hF : ∀ j : Nat, j ≠ 78 ∧ j ≠ 79 → Ew17 j = E0 j := fun j hj => (hsq17 j (by omega)).trans (hF j hj)
      refine J_aload_n (q := 21) X dX10_signsRead_20 rfl rfl ?_
      refine J_get (q := 24) X dX10_signsRead_21 fX10_89 hM (by omega) rfl rfl ?_
      refine J_aload_n (q := 25) X dX10_signsRead_24 rfl rfl ?_
      refine J_get (q := 28) X dX10_signsRead_25 fX10_72 hM (by omega) rfl rfl ?_
      refine J_isub (q := 29) X dX10_signsRead_28 rfl ?_
      refine J_iconst (q := 30) X dX10_signsRead_29 rfl ?_
      refine J_isub (q := 31) X dX10_signsRead_30 rfl ?_
      refine J_istore_n (q := 32) X dX10_signsRead_31 (by decide) rfl rfl ?_
      refine J_aload_n (q := 33) X dX10_signsRead_32 rfl rfl ?_
      refine J_get (q := 36) X dX10_signsRead_33 fX10_7 hM (by omega) rfl rfl ?_
      refine J_sipush (q := 39) X dX10_signsRead_36 rfl (by decide) ?_
      refine J_iald (q := 40) X dX10_signsRead_39 hS (by omega) (by omega) (by decide) rfl ?_
      refine J_istore_n (q := 41) X dX10_signsRead_40 (by decide) rfl rfl ?_
      refine J_aload_n (q := 42) X dX10_signsRead_41 rfl rfl ?_
      refine J_get (q := 45) X dX10_signsRead_42 fX10_69 hM (by omega) rfl rfl ?_
      refine J_if_ne (q := 48) (tgt := 63) X dX10_signsRead_45 (by decide) rfl (by omega) (fun cq45 => ?_) (fun cq45 => ?_)
      · first
          | exact jn63 _ _ _ (Or.inr ⟨by omega, by omega, by omega, by omega⟩) hM hTp hS hF
          | exact jn63 _ _ _ (Or.inl ⟨by omega, fun g' => TQ_br (by omega) htq⟩) hM hTp hS hF
          | exact jn63 _ _ _ (Or.inl ⟨by omega, fun g' => TQ_ne htq (by omega) (by omega)⟩) hM hTp hS hF
          | exact jn63 _ _ _ (Or.inl ⟨by omega, fun g' => TQ_bad htq (by omega) (by omega) (by unfold fT; rw [if_neg (by decide), if_neg (by decide), if_pos rfl, if_neg (by unfold okC; omega)]) (by omega)⟩) hM hTp hS hF
      · exfalso; omega
