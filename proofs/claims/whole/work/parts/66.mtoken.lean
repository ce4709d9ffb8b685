/-! a token, read by the plain one -/
def RDp (tb : Int → Int) (tl i b ba t h k v y : Int) : Prop := ((0 ≤ v ∧ v ≤ 99) ∧ (0 ≤ t ∧ t ≤ 400 ∧ 0 ≤ h ∧ h ≤ 400)) ∧ (tkF tb tl (tkA tb tl i) = 0 → b = 0 ∧ h = tkA tb tl i ∧ k = tkK tb tl (tkA tb tl i) ∧ t = tkB tb tl (tkA tb tl i) ∧ (tkK tb tl (tkA tb tl i) = 2 → v = nv tb (tkA tb tl i) (tkB tb tl (tkA tb tl i))) ∧ y = -4) ∧ (tkF tb tl (tkA tb tl i) ≠ 0 → b = tkF tb tl (tkA tb tl i) ∧ ba = tkP tb tl (tkA tb tl i) ∧ y = (if tkK tb tl (tkA tb tl i) = 4 then tkQ tb tl (tkA tb tl i) - tkA tb tl i - 1 else -4))
section Rd
variable {tb : Int → Int} {tl i t u v b ba h y : Int}
theorem kk0 (h : tl ≤ t) : tkK tb tl t = 0 := if_pos h
theorem kk1 (h : t < tl) (hl : ltr (tb t)) : tkK tb tl t = 1 := by unfold tkK; rw [if_neg (by omega), if_pos hl]
theorem kk2 (h : t < tl) (hl : fig (tb t)) : tkK tb tl t = 2 := by unfold tkK; rw [if_neg (by omega), if_neg (by omega), if_pos hl]
theorem kk4 (h : t < tl) (hl : tb t = 34) : tkK tb tl t = 4 := by unfold tkK; rw [if_neg (by omega), if_neg (by omega), if_neg (by omega), if_pos hl]
theorem kk3 (h : t < tl) (h1 : ¬ ltr (tb t)) (h2 : ¬ fig (tb t)) (h3 : tb t ≠ 34) : tkK tb tl t = 3 := by unfold tkK; rw [if_neg (by omega), if_neg h1, if_neg h2, if_neg h3]
theorem RD_end (h0 : 0 ≤ t ∧ t ≤ 400) (hta : tkA tb tl i = t) (ht : tl ≤ t) : RDp tb tl i 0 ba t t 0 0 (-4) := by
  have hK := kk0 (tb := tb) ht
  have hF : tkF tb tl t = 0 := by unfold tkF; rw [hK]; rfl
  have hB : tkB tb tl t = t := by unfold tkB; rw [hK]; rfl
  unfold RDp; rw [hta, hK, hF, hB]
  exact ⟨⟨by omega, by omega⟩, fun _ => ⟨rfl, rfl, rfl, rfl, fun z => absurd z (by decide), rfl⟩, fun z => absurd rfl z⟩
theorem RD_name (h0 : 0 ≤ t ∧ t ≤ 400) (h1 : 0 ≤ u ∧ u ≤ 400) (hta : tkA tb tl i = t) (ht : t < tl) (hl : ltr (tb t)) (hu : tkL tb tl t = u) : RDp tb tl i 0 ba u t 1 0 (-4) := by
  have hK := kk1 ht hl
  have hF : tkF tb tl t = 0 := by unfold tkF; rw [hK]; rfl
  have hB : tkB tb tl t = u := by unfold tkB; rw [hK]; exact hu
  unfold RDp; rw [hta, hK, hF, hB]
  exact ⟨⟨by omega, by omega⟩, fun _ => ⟨rfl, rfl, rfl, rfl, fun z => absurd z (by decide), rfl⟩, fun z => absurd rfl z⟩
theorem RD_num (h0 : 0 ≤ t ∧ t ≤ 400) (h1 : 0 ≤ u ∧ u ≤ 400) (hta : tkA tb tl i = t) (ht : t < tl) (hl : fig (tb t)) (hu : tkN tb tl t = u) (hvb : 0 ≤ v ∧ v ≤ 99) (hv : v = nv tb t u) (h2 : u - t ≤ 2) : RDp tb tl i 0 ba u t 2 v (-4) := by
  have hK := kk2 ht hl
  have hF : tkF tb tl t = 0 := by unfold tkF; rw [hK, if_pos rfl, hu, if_neg (by omega)]
  have hB : tkB tb tl t = u := by unfold tkB; rw [hK]; exact hu
  unfold RDp; rw [hta, hK, hF, hB]
  exact ⟨⟨hvb, by omega⟩, fun _ => ⟨rfl, rfl, rfl, rfl, fun _ => hv, rfl⟩, fun z => absurd rfl z⟩
theorem RD_numbad (h0 : 0 ≤ h ∧ h ≤ 400) (h1 : 0 ≤ u ∧ u ≤ 400) (hta : tkA tb tl i = t) (ht : t < tl) (hl : fig (tb t)) (hu : tkN tb tl t = u) (hvb : 0 ≤ v ∧ v ≤ 99) (h2 : 2 < u - t) : RDp tb tl i 1 t u h 2 v (-4) := by
  have hK := kk2 ht hl
  have hF : tkF tb tl t = 1 := by unfold tkF; rw [hK, if_pos rfl, hu, if_pos h2]
  have hP : tkP tb tl t = t := by unfold tkP; rw [hK]; rfl
  unfold RDp; rw [hta, hK, hF, hP]
  exact ⟨⟨hvb, by omega⟩, fun z => absurd z (by decide), fun _ => ⟨rfl, rfl, rfl⟩⟩
theorem RD_semi (h0 : 0 ≤ t ∧ t < 400) (hta : tkA tb tl i = t) (ht : t < tl) (h59 : tb t = 59) : RDp tb tl i 0 ba (t + 1) t 3 0 (-4) := by
  have hK : tkK tb tl t = 3 := kk3 ht (by omega) (by omega) (by omega)
  have hF : tkF tb tl t = 0 := by unfold tkF; rw [hK, if_neg (by decide), if_neg (by decide), if_pos rfl, if_pos h59]
  have hB : tkB tb tl t = t + 1 := by unfold tkB; rw [hK]; rfl
  unfold RDp; rw [hta, hK, hF, hB]
  exact ⟨⟨by omega, by omega⟩, fun _ => ⟨rfl, rfl, rfl, rfl, fun z => absurd z (by decide), rfl⟩, fun z => absurd rfl z⟩
theorem RD_semibad (h0 : 0 ≤ h ∧ h ≤ 400) (h1' : 0 ≤ u ∧ u ≤ 400) (hta : tkA tb tl i = t) (ht : t < tl) (h1 : ¬ ltr (tb t)) (h2 : ¬ fig (tb t)) (h3 : tb t ≠ 34) (h59 : tb t ≠ 59) : RDp tb tl i 1 t u h 3 0 (-4) := by
  have hK := kk3 ht h1 h2 h3
  have hF : tkF tb tl t = 1 := by unfold tkF; rw [hK, if_neg (by decide), if_neg (by decide), if_pos rfl, if_neg h59]
  have hP : tkP tb tl t = t := by unfold tkP; rw [hK]; rfl
  unfold RDp; rw [hta, hK, hF, hP]
  exact ⟨⟨by omega, by omega⟩, fun z => absurd z (by decide), fun _ => ⟨rfl, rfl, rfl⟩⟩
theorem RD_quote (h0 : 0 ≤ u ∧ u ≤ 400 ∧ 0 ≤ h ∧ h ≤ 400) (hta : tkA tb tl i = t) (ht : t < tl) (h34 : tb t = 34) (hok : okQ tb tl t → b = 0 ∧ u = tkQ tb tl t + 1 ∧ h = t ∧ y = -4) (hno : ¬ okQ tb tl t → b = (if tkQ tb tl t < tl then 1 else 2) ∧ ba = tkQ tb tl t ∧ y = tkQ tb tl t - t - 1) : RDp tb tl i b ba u h 4 0 y := by
  have hK := kk4 ht h34
  have hP : tkP tb tl t = tkQ tb tl t := by unfold tkP; rw [hK]; rfl
  have hB : tkB tb tl t = tkQ tb tl t + 1 := by unfold tkB; rw [hK]; rfl
  by_cases hq : okQ tb tl t
  · have hF : tkF tb tl t = 0 := by unfold tkF; rw [hK, if_neg (by decide), if_pos rfl, if_pos hq.1, if_pos hq.2]
    obtain ⟨o1, o2, o3, o4⟩ := hok hq
    unfold RDp; rw [hta, hK, hF, hB]
    exact ⟨⟨by omega, by omega⟩, fun _ => ⟨o1, o3, rfl, o2, fun z => absurd z (by decide), o4⟩, fun z => absurd rfl z⟩
  · obtain ⟨o1, o2, o3⟩ := hno hq
    have hF : tkF tb tl t = b := by
      unfold tkF
      rw [hK, if_neg (by decide), if_pos rfl, o1]
      by_cases h5 : tkQ tb tl t < tl
      · rw [if_pos h5, if_pos h5, if_neg (fun z => hq ⟨h5, z⟩)]
      · rw [if_neg h5, if_neg h5]
    have hb : b ≠ 0 := by rw [o1]; split <;> decide
    unfold RDp; rw [hta, hK, hF, hP]
    exact ⟨⟨by omega, by omega⟩, fun z => absurd z hb, fun _ => ⟨rfl, o2, by rw [if_pos rfl]; exact o3⟩⟩
end Rd
set_option maxRecDepth 100000 in
set_option maxHeartbeats 4000000 in
theorem c_X10_readsOn {l : Launch} {Γ : JG} {ad : Nat → Nat} {E : Nat → va_E} {m0 m1 m3 m5 m6 m7 m8 m9 m10 m11 m12 m13 m14 : Int} {tb : Int → Int} {i : Int} (hM : E 78 = .inr (9, [.ref (ad 79), .ref (ad 80), .int (jI m0), .int (jI m1), .int (jI 0), .int (jI m3), .int (jI i), .int (jI m5), .int (jI m6), .int (jI m7), .int (jI m8), .int (jI m9), .int (jI m10), .int (jI m11), .ref (ad 81), .ref (ad 82), .ref (ad 83), .ref (ad 84), .ref (ad 85), .ref (ad 86), .ref (ad 87), .ref (ad 88), .ref (ad 89), .int (jI m12), .int (jI m13), .ref (ad 90), .ref (ad 91), .ref (ad 92), .ref (ad 93), .ref (ad 94), .int (jI m14)])) (hTp : E 80 = aI Γ 160 tb) (htb : TB m0 tb) (hi : 0 ≤ i ∧ i ≤ m0) : JM l Γ yX10_readsOn cX10_readsOn 2 none 3 65 0 0 ad 95 E [.ref (ad 78)] (pV (fun E' => ∃ b ba t h k v y q : Int, E' 78 = .inr (9, [.ref (ad 79), .ref (ad 80), .int (jI m0), .int (jI m1), .int (jI b), .int (jI ba), .int (jI t), .int (jI h), .int (jI k), .int (jI v), .int (jI m8), .int (jI m9), .int (jI y), .int (jI q), .ref (ad 81), .ref (ad 82), .ref (ad 83), .ref (ad 84), .ref (ad 85), .ref (ad 86), .ref (ad 87), .ref (ad 88), .ref (ad 89), .int (jI m12), .int (jI m13), .ref (ad 90), .ref (ad 91), .ref (ad 92), .ref (ad 93), .ref (ad 94), .int (jI m14)]) ∧ RDp tb m0 i b ba t h k v y ∧ ∀ j : Nat, j ≠ 78 → E' j = E j)) := by
  refine JM_intro (own := RX10) [some (.ref (ad 78)), none] rfl rfl rfl (Nat.le_of_ble_eq_true rfl) ?_
  intro Ω X R hin
  obtain ⟨E0, hE0⟩ : ∃ E0 : Nat → va_E, E0 = E := ⟨_, rfl⟩
  have hF : ∀ j : Nat, j ≠ 78 → E j = E0 j := fun _ _ => by rw [hE0]
  obtain ⟨htl, htv⟩ := id htb
  refine J_aload_n (q := 1) X dX10_readsOn_0 rfl rfl ?_
  refine J_get (q := 4) X dX10_readsOn_1 fX10_69 hM (by omega) rfl rfl ?_
  refine J_if_le (q := 7) (tgt := 8) X dX10_readsOn_4 (by decide) rfl (by omega) (fun cq4 => ?_) (fun cq4 => ?_)
  · have lp8 : ∀ (mm : Nat) (t : Int) (E : Nat → va_E) (ht : i ≤ t ∧ t ≤ m0) (hsc : sc (fun j => tb j = 32) m0 t = tkA tb m0 i) (hM : E 78 = .inr (9, [.ref (ad 79), .ref (ad 80), .int (jI m0), .int (jI m1), .int (jI 0), .int (jI m3), .int (jI t), .int (jI m5), .int (jI m6), .int (jI m7), .int (jI m8), .int (jI m9), .int (jI m10), .int (jI m11), .ref (ad 81), .ref (ad 82), .ref (ad 83), .ref (ad 84), .ref (ad 85), .ref (ad 86), .ref (ad 87), .ref (ad 88), .ref (ad 89), .int (jI m12), .int (jI m13), .ref (ad 90), .ref (ad 91), .ref (ad 92), .ref (ad 93), .ref (ad 94), .int (jI m14)])) (hTp : E 80 = aI Γ 160 tb) (hF : ∀ j : Nat, j ≠ 78 → E j = E0 j) (hmm : m0 + 1 - t ≤ (mm : Int)), J l Γ Ω 2 ad 95 0 0 E 8 [some (.ref (ad 78)), none] [] := by
      intro mm
      induction mm with
      | zero => intro t E ht hsc hM hTp hF hmm; exfalso; omega
      | succ mm ih8 =>
        intro t E ht hsc hM hTp hF hmm
        have hbt := bt_in htb (k := t) (by omega)
        refine J_aload_n (q := 9) X dX10_readsOn_8 rfl rfl ?_
        refine J_aload_n (q := 10) X dX10_readsOn_9 rfl rfl ?_
        refine J_get (q := 13) X dX10_readsOn_10 fX10_89 hM (by omega) rfl rfl ?_
        refine J_callP (q := 16) (jrV X mX10_92 dX10_readsOn_13 (c_X10_byteAt hM hTp htb (by omega)) hM (by omega) rfl rfl rfl rfl (Nat.le_of_ble_eq_true rfl) (by decide)) rfl ?_
        refine J_bipush (q := 18) X dX10_readsOn_16 rfl (by decide) ?_
        refine J_icmp_ne (q := 21) (tgt := 34) X dX10_readsOn_18 (by decide) rfl (by omega) (by omega) (fun cq18 => ?_) (fun cq18 => ?_)
        · have hta : tkA tb m0 i = t := by
            rw [← hsc]
            exact sc_stop (P := (fun j => tb j = 32)) (fun z => by rcases hbt with y | y <;> omega)
          refine J_aload_n (q := 35) X dX10_readsOn_34 rfl rfl ?_
          refine J_aload_n (q := 36) X dX10_readsOn_35 rfl rfl ?_
          refine J_get (q := 39) X dX10_readsOn_36 fX10_89 hM (by omega) rfl rfl ?_
          refine J_put (q := 42) (ty := .int) X dX10_readsOn_39 fX10_72 rfl (by decide +kernel) rfl rfl hM (by omega) (Nat.le_of_ble_eq_true rfl) rfl (fun Ew39 hkq39 hsq39 => ?_)
          replace hM : Ew39 78 = .inr (9, [.ref (ad 79), .ref (ad 80), .int (jI _), .int (jI _), .int (jI _), .int (jI _), .int (jI _), .int (jI _), .int (jI _), .int (jI _), .int (jI _), .int (jI _), .int (jI _), .int (jI _), .ref (ad 81), .ref (ad 82), .ref (ad 83), .ref (ad 84), .ref (ad 85), .ref (ad 86), .ref (ad 87), .ref (ad 88), .ref (ad 89), .int (jI _), .int (jI _), .ref (ad 90), .ref (ad 91), .ref (ad 92), .ref (ad 93), .ref (ad 94), .int (jI _)]) := hkq39
          replace hTp := (hsq39 80 (by omega)).trans hTp
          replace hF : ∀ j : Nat, j ≠ 78 → Ew39 j = E0 j := fun j hj => (hsq39 j (by omega)).trans (hF j hj)
          refine J_aload_n (q := 43) X dX10_readsOn_42 rfl rfl ?_
          refine J_aload_n (q := 44) X dX10_readsOn_43 rfl rfl ?_
          refine J_get (q := 47) X dX10_readsOn_44 fX10_89 hM (by omega) rfl rfl ?_
          refine J_callP (q := 50) (jrV X mX10_92 dX10_readsOn_47 (c_X10_byteAt hM hTp htb (by omega)) hM (by omega) rfl rfl rfl rfl (Nat.le_of_ble_eq_true rfl) (by decide)) rfl ?_
          refine J_istore_n (q := 51) X dX10_readsOn_50 (by decide) rfl rfl ?_
          refine J_aload_n (q := 52) X dX10_readsOn_51 rfl rfl ?_
          refine J_iconst (q := 53) X dX10_readsOn_52 rfl ?_
          refine J_put (q := 56) (ty := .int) X dX10_readsOn_53 fX10_109 rfl (by decide +kernel) rfl rfl hM (by omega) (Nat.le_of_ble_eq_true rfl) rfl (fun Ew53 hkq53 hsq53 => ?_)
          replace hM : Ew53 78 = .inr (9, [.ref (ad 79), .ref (ad 80), .int (jI _), .int (jI _), .int (jI _), .int (jI _), .int (jI _), .int (jI _), .int (jI _), .int (jI _), .int (jI _), .int (jI _), .int (jI _), .int (jI _), .ref (ad 81), .ref (ad 82), .ref (ad 83), .ref (ad 84), .ref (ad 85), .ref (ad 86), .ref (ad 87), .ref (ad 88), .ref (ad 89), .int (jI _), .int (jI _), .ref (ad 90), .ref (ad 91), .ref (ad 92), .ref (ad 93), .ref (ad 94), .int (jI _)]) := hkq53
          replace hTp := (hsq53 80 (by omega)).trans hTp
          replace hF : ∀ j : Nat, j ≠ 78 → Ew53 j = E0 j := fun j hj => (hsq53 j (by omega)).trans (hF j hj)
          refine J_aload_n (q := 57) X dX10_readsOn_56 rfl rfl ?_
          refine J_bipush (q := 59) X dX10_readsOn_57 rfl (by decide) ?_
          refine J_put (q := 62) (ty := .int) X dX10_readsOn_59 fX10_102 rfl (by decide +kernel) rfl rfl hM (by omega) (Nat.le_of_ble_eq_true rfl) rfl (fun Ew59 hkq59 hsq59 => ?_)
          replace hM : Ew59 78 = .inr (9, [.ref (ad 79), .ref (ad 80), .int (jI _), .int (jI _), .int (jI _), .int (jI _), .int (jI _), .int (jI _), .int (jI _), .int (jI _), .int (jI _), .int (jI _), .int (jI _), .int (jI _), .ref (ad 81), .ref (ad 82), .ref (ad 83), .ref (ad 84), .ref (ad 85), .ref (ad 86), .ref (ad 87), .ref (ad 88), .ref (ad 89), .int (jI _), .int (jI _), .ref (ad 90), .ref (ad 91), .ref (ad 92), .ref (ad 93), .ref (ad 94), .int (jI _)]) := hkq59
          replace hTp := (hsq59 80 (by omega)).trans hTp
          replace hF : ∀ j : Nat, j ≠ 78 → Ew59 j = E0 j := fun j hj => (hsq59 j (by omega)).trans (hF j hj)
          refine J_iload_n (q := 63) X dX10_readsOn_62 rfl rfl ?_
          refine J_bipush (q := 65) X dX10_readsOn_63 rfl (by decide) ?_
          refine J_icmp_ne (q := 68) (tgt := 76) X dX10_readsOn_65 (by decide) rfl (by omega) (by omega) (fun cq65 => ?_) (fun cq65 => ?_)
          · refine J_iload_n (q := 77) X dX10_readsOn_76 rfl rfl ?_
            refine J_i2l (q := 78) X dX10_readsOn_77 rfl (by omega) ?_
            refine J_ldc2 (q := 81) X dX10_readsOn_78 kX10_82 rfl ?_
            refine J_ldc2 (q := 84) X dX10_readsOn_81 kX10_84 rfl ?_
            refine J_callP (q := 87) (jrS X mX10_61 dX10_readsOn_84 (c_X10_in (by omega) (by omega) (by omega)) rfl rfl (Nat.le_of_ble_eq_true rfl) (by decide)) rfl ?_
            refine J_if_eqB (q := 90) (tgt := 132) X dX10_readsOn_87 (by decide) rfl (fun cq87 => ?_) (fun cq87 => ?_)
            · refine J_iload_n (q := 133) X dX10_readsOn_132 rfl rfl ?_
              refine J_i2l (q := 134) X dX10_readsOn_133 rfl (by omega) ?_
              refine J_ldc2 (q := 137) X dX10_readsOn_134 kX10_112 rfl ?_
              refine J_ldc2 (q := 140) X dX10_readsOn_137 kX10_114 rfl ?_
              refine J_callP (q := 143) (jrS X mX10_61 dX10_readsOn_140 (c_X10_in (by omega) (by omega) (by omega)) rfl rfl (Nat.le_of_ble_eq_true rfl) (by decide)) rfl ?_
              refine J_if_eqB (q := 146) (tgt := 249) X dX10_readsOn_143 (by decide) rfl (fun cq143 => ?_) (fun cq143 => ?_)
              · refine J_iload_n (q := 250) X dX10_readsOn_249 rfl rfl ?_
                refine J_bipush (q := 252) X dX10_readsOn_250 rfl (by decide) ?_
                refine J_icmp_ne (q := 255) (tgt := 262) X dX10_readsOn_252 (by decide) rfl (by omega) (by omega) (fun cq252 => ?_) (fun cq252 => ?_)
                · refine J_aload_n (q := 263) X dX10_readsOn_262 rfl rfl ?_
                  refine J_iconst (q := 264) X dX10_readsOn_263 rfl ?_
                  refine J_put (q := 267) (ty := .int) X dX10_readsOn_264 fX10_86 rfl (by decide +kernel) rfl rfl hM (by omega) (Nat.le_of_ble_eq_true rfl) rfl (fun Ew264 hkq264 hsq264 => ?_)
                  replace hM : Ew264 78 = .inr (9, [.ref (ad 79), .ref (ad 80), .int (jI _), .int (jI _), .int (jI _), .int (jI _), .int (jI _), .int (jI _), .int (jI _), .int (jI _), .int (jI _), .int (jI _), .int (jI _), .int (jI _), .ref (ad 81), .ref (ad 82), .ref (ad 83), .ref (ad 84), .ref (ad 85), .ref (ad 86), .ref (ad 87), .ref (ad 88), .ref (ad 89), .int (jI _), .int (jI _), .ref (ad 90), .ref (ad 91), .ref (ad 92), .ref (ad 93), .ref (ad 94), .int (jI _)]) := hkq264
                  replace hTp := (hsq264 80 (by omega)).trans hTp
                  replace hF : ∀ j : Nat, j ≠ 78 → Ew264 j = E0 j := fun j hj => (hsq264 j (by omega)).trans (hF j hj)
                  refine J_aload_n (q := 268) X dX10_readsOn_267 rfl rfl ?_
                  refine J_dup (q := 269) X dX10_readsOn_268 rfl rfl ?_
                  refine J_get (q := 272) X dX10_readsOn_269 fX10_89 hM (by omega) rfl rfl ?_
                  refine J_iconst (q := 273) X dX10_readsOn_272 rfl ?_
                  refine J_iadd (q := 274) X dX10_readsOn_273 rfl ?_
                  refine J_put (q := 277) (ty := .int) X dX10_readsOn_274 fX10_89 rfl (by decide +kernel) rfl rfl hM (by omega) (Nat.le_of_ble_eq_true rfl) rfl (fun Ew274 hkq274 hsq274 => ?_)
                  replace hM : Ew274 78 = .inr (9, [.ref (ad 79), .ref (ad 80), .int (jI _), .int (jI _), .int (jI _), .int (jI _), .int (jI _), .int (jI _), .int (jI _), .int (jI _), .int (jI _), .int (jI _), .int (jI _), .int (jI _), .ref (ad 81), .ref (ad 82), .ref (ad 83), .ref (ad 84), .ref (ad 85), .ref (ad 86), .ref (ad 87), .ref (ad 88), .ref (ad 89), .int (jI _), .int (jI _), .ref (ad 90), .ref (ad 91), .ref (ad 92), .ref (ad 93), .ref (ad 94), .int (jI _)]) := hkq274
                  replace hTp := (hsq274 80 (by omega)).trans hTp
                  replace hF : ∀ j : Nat, j ≠ 78 → Ew274 j = E0 j := fun j hj => (hsq274 j (by omega)).trans (hF j hj)
                  refine J_iload_n (q := 278) X dX10_readsOn_277 rfl rfl ?_
                  refine J_bipush (q := 280) X dX10_readsOn_278 rfl (by decide) ?_
                  refine J_icmp_eq (q := 283) (tgt := 288) X dX10_readsOn_280 (by decide) rfl (by omega) (by omega) (fun cq280 => ?_) (fun cq280 => ?_)
                  · refine J_vret X R dX10_readsOn_288 ?_
                    rw [hE0] at hF
                    first
                      | exact ⟨rfl, _, _, _, _, _, _, _, _, hM, RD_end (by omega) hta (by omega), hF⟩
                      | exact ⟨rfl, _, _, _, _, _, _, _, _, hM, RD_name (by omega) (by omega) hta (by omega) (by omega) hul, hF⟩
                      | exact ⟨rfl, _, _, _, _, _, _, _, _, hM, RD_num (by omega) (by omega) hta (by omega) (by omega) hun hvb (hvv (by omega)) (by omega), hF⟩
                      | exact ⟨rfl, _, _, _, _, _, _, _, _, hM, RD_numbad (by omega) (by omega) hta (by omega) (by omega) hun hvb (by omega), hF⟩
                      | exact ⟨rfl, _, _, _, _, _, _, _, _, hM, RD_semi (by omega) hta (by omega) (by omega), hF⟩
                      | exact ⟨rfl, _, _, _, _, _, _, _, _, hM, RD_semibad (by omega) (by omega) hta (by omega) (by omega) (by omega) (by omega) (by omega), hF⟩
                      | exact ⟨rfl, _, _, _, _, _, _, _, _, hM, RD_quote hbdq256 hta (by omega) (by omega) hokq256 hnoq256, hF⟩
                  · refine J_aload_n (q := 284) X dX10_readsOn_283 rfl rfl ?_
                    refine J_iconst (q := 285) X dX10_readsOn_284 rfl ?_
                    refine J_callV (q := 288) (jrV X mX10_105 dX10_readsOn_285 (c_X10_fails hM (by omega)) hM (by omega) rfl rfl rfl rfl (Nat.le_of_ble_eq_true rfl) (by decide)) rfl (fun Ew285 hpq285 => ?_)
                    obtain ⟨kM, hsq285⟩ := hpq285
                    replace hM := kM
                    rw [if_pos rfl, if_pos rfl] at hM
                    replace hTp := (hsq285 80 (by omega)).trans hTp
                    replace hF : ∀ j : Nat, j ≠ 78 → Ew285 j = E0 j := fun j hj => (hsq285 j (by omega)).trans (hF j hj)
                    refine J_vret X R dX10_readsOn_288 ?_
                    rw [hE0] at hF
                    first
                      | exact ⟨rfl, _, _, _, _, _, _, _, _, hM, RD_end (by omega) hta (by omega), hF⟩
                      | exact ⟨rfl, _, _, _, _, _, _, _, _, hM, RD_name (by omega) (by omega) hta (by omega) (by omega) hul, hF⟩
                      | exact ⟨rfl, _, _, _, _, _, _, _, _, hM, RD_num (by omega) (by omega) hta (by omega) (by omega) hun hvb (hvv (by omega)) (by omega), hF⟩
                      | exact ⟨rfl, _, _, _, _, _, _, _, _, hM, RD_numbad (by omega) (by omega) hta (by omega) (by omega) hun hvb (by omega), hF⟩
                      | exact ⟨rfl, _, _, _, _, _, _, _, _, hM, RD_semi (by omega) hta (by omega) (by omega), hF⟩
                      | exact ⟨rfl, _, _, _, _, _, _, _, _, hM, RD_semibad (by omega) (by omega) hta (by omega) (by omega) (by omega) (by omega) (by omega), hF⟩
                      | exact ⟨rfl, _, _, _, _, _, _, _, _, hM, RD_quote hbdq256 hta (by omega) (by omega) hokq256 hnoq256, hF⟩
                · refine J_aload_n (q := 256) X dX10_readsOn_255 rfl rfl ?_
                  refine J_callV (q := 259) (jrV X mX10_116 dX10_readsOn_256 (c_X10_quoteRead hM hTp htb (by omega)) hM (by omega) rfl rfl rfl rfl (Nat.le_of_ble_eq_true rfl) (by decide)) rfl (fun Ew256 hpq256 => ?_)
                  obtain ⟨bq256, baq256, sq256, hq256, yq256, kM, hbdq256, hokq256, hnoq256, hsq256⟩ := hpq256
                  replace hM := kM
                  replace hTp := (hsq256 80 (by omega)).trans hTp
                  replace hF : ∀ j : Nat, j ≠ 78 → Ew256 j = E0 j := fun j hj => (hsq256 j (by omega)).trans (hF j hj)
                  refine J_goto (q := 288) X dX10_readsOn_259 (by decide) ?_
                  refine J_vret X R dX10_readsOn_288 ?_
                  rw [hE0] at hF
                  first
                    | exact ⟨rfl, _, _, _, _, _, _, _, _, hM, RD_end (by omega) hta (by omega), hF⟩
                    | exact ⟨rfl, _, _, _, _, _, _, _, _, hM, RD_name (by omega) (by omega) hta (by omega) (by omega) hul, hF⟩
                    | exact ⟨rfl, _, _, _, _, _, _, _, _, hM, RD_num (by omega) (by omega) hta (by omega) (by omega) hun hvb (hvv (by omega)) (by omega), hF⟩
                    | exact ⟨rfl, _, _, _, _, _, _, _, _, hM, RD_numbad (by omega) (by omega) hta (by omega) (by omega) hun hvb (by omega), hF⟩
                    | exact ⟨rfl, _, _, _, _, _, _, _, _, hM, RD_semi (by omega) hta (by omega) (by omega), hF⟩
                    | exact ⟨rfl, _, _, _, _, _, _, _, _, hM, RD_semibad (by omega) (by omega) hta (by omega) (by omega) (by omega) (by omega) (by omega), hF⟩
                    | exact ⟨rfl, _, _, _, _, _, _, _, _, hM, RD_quote hbdq256 hta (by omega) (by omega) hokq256 hnoq256, hF⟩
              · have lp146 : ∀ (m9n : Nat) (u v : Int) (E : Nat → va_E) (hu : t ≤ u ∧ u ≤ m0) (hsn : sc (fun j => fig (tb j)) m0 u = tkN tb m0 t) (hvb : 0 ≤ v ∧ v ≤ 99) (hvv : u - t ≤ 2 → v = nv tb t u) (hM : E 78 = .inr (9, [.ref (ad 79), .ref (ad 80), .int (jI m0), .int (jI m1), .int (jI 0), .int (jI m3), .int (jI u), .int (jI t), .int (jI m6), .int (jI v), .int (jI m8), .int (jI m9), .int (jI (-4)), .int (jI m11), .ref (ad 81), .ref (ad 82), .ref (ad 83), .ref (ad 84), .ref (ad 85), .ref (ad 86), .ref (ad 87), .ref (ad 88), .ref (ad 89), .int (jI m12), .int (jI m13), .ref (ad 90), .ref (ad 91), .ref (ad 92), .ref (ad 93), .ref (ad 94), .int (jI m14)])) (hTp : E 80 = aI Γ 160 tb) (hF : ∀ j : Nat, j ≠ 78 → E j = E0 j) (hmn : m0 + 1 - u ≤ (m9n : Int)), J l Γ Ω 2 ad 95 0 0 E 146 [some (.ref (ad 78)), some (.int (jI (bt tb m0 t)))] [] := by
                  intro m9n
                  induction m9n with
                  | zero => intro u v E hu hsn hvb hvv hM hTp hF hmn; exfalso; omega
                  | succ m9n ih146 =>
                    intro u v E hu hsn hvb hvv hM hTp hF hmn
                    have hbu := bt_in htb (k := u) (by omega)
                    refine J_aload_n (q := 147) X dX10_readsOn_146 rfl rfl ?_
                    refine J_aload_n (q := 148) X dX10_readsOn_147 rfl rfl ?_
                    refine J_get (q := 151) X dX10_readsOn_148 fX10_89 hM (by omega) rfl rfl ?_
                    refine J_callP (q := 154) (jrV X mX10_92 dX10_readsOn_151 (c_X10_byteAt hM hTp htb (by omega)) hM (by omega) rfl rfl rfl rfl (Nat.le_of_ble_eq_true rfl) (by decide)) rfl ?_
                    refine J_i2l (q := 155) X dX10_readsOn_154 rfl (by omega) ?_
                    refine J_ldc2 (q := 158) X dX10_readsOn_155 kX10_112 rfl ?_
                    refine J_ldc2 (q := 161) X dX10_readsOn_158 kX10_114 rfl ?_
                    refine J_callP (q := 164) (jrS X mX10_61 dX10_readsOn_161 (c_X10_in (by omega) (by omega) (by omega)) rfl rfl (Nat.le_of_ble_eq_true rfl) (by decide)) rfl ?_
                    refine J_if_eqB (q := 167) (tgt := 223) X dX10_readsOn_164 (by decide) rfl (fun cq164 => ?_) (fun cq164 => ?_)
                    · have hun : tkN tb m0 t = u := by
                        rw [← hsn]
                        exact sc_stop (P := (fun j => fig (tb j))) (fun z => by rcases hbu with y | y <;> omega)
                      refine J_aload_n (q := 224) X dX10_readsOn_223 rfl rfl ?_
                      refine J_iconst (q := 225) X dX10_readsOn_224 rfl ?_
                      refine J_put (q := 228) (ty := .int) X dX10_readsOn_225 fX10_86 rfl (by decide +kernel) rfl rfl hM (by omega) (Nat.le_of_ble_eq_true rfl) rfl (fun Ew225 hkq225 hsq225 => ?_)
                      replace hM : Ew225 78 = .inr (9, [.ref (ad 79), .ref (ad 80), .int (jI _), .int (jI _), .int (jI _), .int (jI _), .int (jI _), .int (jI _), .int (jI _), .int (jI _), .int (jI _), .int (jI _), .int (jI _), .int (jI _), .ref (ad 81), .ref (ad 82), .ref (ad 83), .ref (ad 84), .ref (ad 85), .ref (ad 86), .ref (ad 87), .ref (ad 88), .ref (ad 89), .int (jI _), .int (jI _), .ref (ad 90), .ref (ad 91), .ref (ad 92), .ref (ad 93), .ref (ad 94), .int (jI _)]) := hkq225
                      replace hTp := (hsq225 80 (by omega)).trans hTp
                      replace hF : ∀ j : Nat, j ≠ 78 → Ew225 j = E0 j := fun j hj => (hsq225 j (by omega)).trans (hF j hj)
                      refine J_aload_n (q := 229) X dX10_readsOn_228 rfl rfl ?_
                      refine J_get (q := 232) X dX10_readsOn_229 fX10_89 hM (by omega) rfl rfl ?_
                      refine J_aload_n (q := 233) X dX10_readsOn_232 rfl rfl ?_
                      refine J_get (q := 236) X dX10_readsOn_233 fX10_72 hM (by omega) rfl rfl ?_
                      refine J_isub (q := 237) X dX10_readsOn_236 rfl ?_
                      refine J_iconst (q := 238) X dX10_readsOn_237 rfl ?_
                      refine J_icmp_le (q := 241) (tgt := 288) X dX10_readsOn_238 (by decide) rfl (by omega) (by omega) (fun cq238 => ?_) (fun cq238 => ?_)
                      · refine J_vret X R dX10_readsOn_288 ?_
                        rw [hE0] at hF
                        first
                          | exact ⟨rfl, _, _, _, _, _, _, _, _, hM, RD_end (by omega) hta (by omega), hF⟩
                          | exact ⟨rfl, _, _, _, _, _, _, _, _, hM, RD_name (by omega) (by omega) hta (by omega) (by omega) hul, hF⟩
                          | exact ⟨rfl, _, _, _, _, _, _, _, _, hM, RD_num (by omega) (by omega) hta (by omega) (by omega) hun hvb (hvv (by omega)) (by omega), hF⟩
                          | exact ⟨rfl, _, _, _, _, _, _, _, _, hM, RD_numbad (by omega) (by omega) hta (by omega) (by omega) hun hvb (by omega), hF⟩
                          | exact ⟨rfl, _, _, _, _, _, _, _, _, hM, RD_semi (by omega) hta (by omega) (by omega), hF⟩
                          | exact ⟨rfl, _, _, _, _, _, _, _, _, hM, RD_semibad (by omega) (by omega) hta (by omega) (by omega) (by omega) (by omega) (by omega), hF⟩
                          | exact ⟨rfl, _, _, _, _, _, _, _, _, hM, RD_quote hbdq256 hta (by omega) (by omega) hokq256 hnoq256, hF⟩
                      · refine J_aload_n (q := 242) X dX10_readsOn_241 rfl rfl ?_
                        refine J_iconst (q := 243) X dX10_readsOn_242 rfl ?_
                        refine J_callV (q := 246) (jrV X mX10_105 dX10_readsOn_243 (c_X10_fails hM (by omega)) hM (by omega) rfl rfl rfl rfl (Nat.le_of_ble_eq_true rfl) (by decide)) rfl (fun Ew243 hpq243 => ?_)
                        obtain ⟨kM, hsq243⟩ := hpq243
                        replace hM := kM
                        rw [if_pos rfl, if_pos rfl] at hM
                        replace hTp := (hsq243 80 (by omega)).trans hTp
                        replace hF : ∀ j : Nat, j ≠ 78 → Ew243 j = E0 j := fun j hj => (hsq243 j (by omega)).trans (hF j hj)
                        refine J_goto (q := 288) X dX10_readsOn_246 (by decide) ?_
                        refine J_vret X R dX10_readsOn_288 ?_
                        rw [hE0] at hF
                        first
                          | exact ⟨rfl, _, _, _, _, _, _, _, _, hM, RD_end (by omega) hta (by omega), hF⟩
                          | exact ⟨rfl, _, _, _, _, _, _, _, _, hM, RD_name (by omega) (by omega) hta (by omega) (by omega) hul, hF⟩
                          | exact ⟨rfl, _, _, _, _, _, _, _, _, hM, RD_num (by omega) (by omega) hta (by omega) (by omega) hun hvb (hvv (by omega)) (by omega), hF⟩
                          | exact ⟨rfl, _, _, _, _, _, _, _, _, hM, RD_numbad (by omega) (by omega) hta (by omega) (by omega) hun hvb (by omega), hF⟩
                          | exact ⟨rfl, _, _, _, _, _, _, _, _, hM, RD_semi (by omega) hta (by omega) (by omega), hF⟩
                          | exact ⟨rfl, _, _, _, _, _, _, _, _, hM, RD_semibad (by omega) (by omega) hta (by omega) (by omega) (by omega) (by omega) (by omega), hF⟩
                          | exact ⟨rfl, _, _, _, _, _, _, _, _, hM, RD_quote hbdq256 hta (by omega) (by omega) hokq256 hnoq256, hF⟩
                    · refine J_aload_n (q := 168) X dX10_readsOn_167 rfl rfl ?_
                      refine J_aload_n (q := 169) X dX10_readsOn_168 rfl rfl ?_
                      refine J_get (q := 172) X dX10_readsOn_169 fX10_89 hM (by omega) rfl rfl ?_
                      refine J_aload_n (q := 173) X dX10_readsOn_172 rfl rfl ?_
                      refine J_get (q := 176) X dX10_readsOn_173 fX10_72 hM (by omega) rfl rfl ?_
                      refine J_isub (q := 177) X dX10_readsOn_176 rfl ?_
                      refine J_iconst (q := 178) X dX10_readsOn_177 rfl ?_
                      refine J_icmp_ge (q := 181) (tgt := 203) X dX10_readsOn_178 (by decide) rfl (by omega) (by omega) (fun cq178 => ?_) (fun cq178 => ?_)
                      · refine J_aload_n (q := 204) X dX10_readsOn_203 rfl rfl ?_
                        refine J_get (q := 207) X dX10_readsOn_204 fX10_109 hM (by omega) rfl rfl ?_
                        refine J_put (q := 210) (ty := .int) X dX10_readsOn_207 fX10_109 rfl (by decide +kernel) rfl rfl hM (by omega) (Nat.le_of_ble_eq_true rfl) rfl (fun Ew207 hkq207 hsq207 => ?_)
                        replace hM : Ew207 78 = .inr (9, [.ref (ad 79), .ref (ad 80), .int (jI _), .int (jI _), .int (jI _), .int (jI _), .int (jI _), .int (jI _), .int (jI _), .int (jI _), .int (jI _), .int (jI _), .int (jI _), .int (jI _), .ref (ad 81), .ref (ad 82), .ref (ad 83), .ref (ad 84), .ref (ad 85), .ref (ad 86), .ref (ad 87), .ref (ad 88), .ref (ad 89), .int (jI _), .int (jI _), .ref (ad 90), .ref (ad 91), .ref (ad 92), .ref (ad 93), .ref (ad 94), .int (jI _)]) := hkq207
                        replace hTp := (hsq207 80 (by omega)).trans hTp
                        replace hF : ∀ j : Nat, j ≠ 78 → Ew207 j = E0 j := fun j hj => (hsq207 j (by omega)).trans (hF j hj)
                        refine J_aload_n (q := 211) X dX10_readsOn_210 rfl rfl ?_
                        refine J_dup (q := 212) X dX10_readsOn_211 rfl rfl ?_
                        refine J_get (q := 215) X dX10_readsOn_212 fX10_89 hM (by omega) rfl rfl ?_
                        refine J_iconst (q := 216) X dX10_readsOn_215 rfl ?_
                        refine J_iadd (q := 217) X dX10_readsOn_216 rfl ?_
                        refine J_put (q := 220) (ty := .int) X dX10_readsOn_217 fX10_89 rfl (by decide +kernel) rfl rfl hM (by omega) (Nat.le_of_ble_eq_true rfl) rfl (fun Ew217 hkq217 hsq217 => ?_)
                        replace hM : Ew217 78 = .inr (9, [.ref (ad 79), .ref (ad 80), .int (jI _), .int (jI _), .int (jI _), .int (jI _), .int (jI _), .int (jI _), .int (jI _), .int (jI _), .int (jI _), .int (jI _), .int (jI _), .int (jI _), .ref (ad 81), .ref (ad 82), .ref (ad 83), .ref (ad 84), .ref (ad 85), .ref (ad 86), .ref (ad 87), .ref (ad 88), .ref (ad 89), .int (jI _), .int (jI _), .ref (ad 90), .ref (ad 91), .ref (ad 92), .ref (ad 93), .ref (ad 94), .int (jI _)]) := hkq217
                        replace hTp := (hsq217 80 (by omega)).trans hTp
                        replace hF : ∀ j : Nat, j ≠ 78 → Ew217 j = E0 j := fun j hj => (hsq217 j (by omega)).trans (hF j hj)
                        refine J_goto (q := 146) X dX10_readsOn_220 (by decide) ?_
                        have hlt : u < m0 ∧ fig (tb u) := by rcases hbu with z | z <;> omega
                        have hbe : bt tb m0 u = tb u := if_pos hlt.1
                        have hsg := sc_go (P := (fun j => fig (tb j))) hlt.1 hlt.2
                        first
                          | exact ih146 _ _ _ (by omega) (by rw [hsg]; exact hsn) (by omega) (fun z => by omega) hM hTp hF (by omega)
                          | (rw [hbe] at hM
                             have hnv : 10 * v + tb u - 48 = nv tb t (u + 1) := by
                               have := nv_step hu.1 hvv (by omega)
                               omega
                             have hub := nv_bd (tb := tb) (tl := m0) (a := t) (t := u + 1) (by omega) (by omega) (fun j a b => by
                               by_cases e : j = u
                               · rw [e]; exact hlt.2
                               · exact (sc_of (P := (fun j => fig (tb j))) m0 t).2.2.1 j a (by have := (sc_of (P := (fun j => fig (tb j))) m0 u).1; show j < tkN tb m0 t; rw [← hsn]; omega))
                             exact ih146 _ _ _ (by omega) (by rw [hsg]; exact hsn) (by omega) (fun _ => hnv) hM hTp hF (by omega))
                      · refine J_bipush (q := 183) X dX10_readsOn_181 rfl (by decide) ?_
                        refine J_aload_n (q := 184) X dX10_readsOn_183 rfl rfl ?_
                        refine J_get (q := 187) X dX10_readsOn_184 fX10_109 hM (by omega) rfl rfl ?_
                        refine J_imul (q := 188) X dX10_readsOn_187 rfl ?_
                        refine J_aload_n (q := 189) X dX10_readsOn_188 rfl rfl ?_
                        refine J_aload_n (q := 190) X dX10_readsOn_189 rfl rfl ?_
                        refine J_get (q := 193) X dX10_readsOn_190 fX10_89 hM (by omega) rfl rfl ?_
                        refine J_callP (q := 196) (jrV X mX10_92 dX10_readsOn_193 (c_X10_byteAt hM hTp htb (by omega)) hM (by omega) rfl rfl rfl rfl (Nat.le_of_ble_eq_true rfl) (by decide)) rfl ?_
                        refine J_iadd (q := 197) X dX10_readsOn_196 rfl ?_
                        refine J_bipush (q := 199) X dX10_readsOn_197 rfl (by decide) ?_
                        refine J_isub (q := 200) X dX10_readsOn_199 rfl ?_
                        refine J_goto (q := 207) X dX10_readsOn_200 (by decide) ?_
                        refine J_put (q := 210) (ty := .int) X dX10_readsOn_207 fX10_109 rfl (by decide +kernel) rfl rfl hM (by omega) (Nat.le_of_ble_eq_true rfl) rfl (fun Ew207 hkq207 hsq207 => ?_)
                        replace hM : Ew207 78 = .inr (9, [.ref (ad 79), .ref (ad 80), .int (jI _), .int (jI _), .int (jI _), .int (jI _), .int (jI _), .int (jI _), .int (jI _), .int (jI _), .int (jI _), .int (jI _), .int (jI _), .int (jI _), .ref (ad 81), .ref (ad 82), .ref (ad 83), .ref (ad 84), .ref (ad 85), .ref (ad 86), .ref (ad 87), .ref (ad 88), .ref (ad 89), .int (jI _), .int (jI _), .ref (ad 90), .ref (ad 91), .ref (ad 92), .ref (ad 93), .ref (ad 94), .int (jI _)]) := hkq207
                        replace hTp := (hsq207 80 (by omega)).trans hTp
                        replace hF : ∀ j : Nat, j ≠ 78 → Ew207 j = E0 j := fun j hj => (hsq207 j (by omega)).trans (hF j hj)
                        refine J_aload_n (q := 211) X dX10_readsOn_210 rfl rfl ?_
                        refine J_dup (q := 212) X dX10_readsOn_211 rfl rfl ?_
                        refine J_get (q := 215) X dX10_readsOn_212 fX10_89 hM (by omega) rfl rfl ?_
                        refine J_iconst (q := 216) X dX10_readsOn_215 rfl ?_
                        refine J_iadd (q := 217) X dX10_readsOn_216 rfl ?_
                        refine J_put (q := 220) (ty := .int) X dX10_readsOn_217 fX10_89 rfl (by decide +kernel) rfl rfl hM (by omega) (Nat.le_of_ble_eq_true rfl) rfl (fun Ew217 hkq217 hsq217 => ?_)
                        replace hM : Ew217 78 = .inr (9, [.ref (ad 79), .ref (ad 80), .int (jI _), .int (jI _), .int (jI _), .int (jI _), .int (jI _), .int (jI _), .int (jI _), .int (jI _), .int (jI _), .int (jI _), .int (jI _), .int (jI _), .ref (ad 81), .ref (ad 82), .ref (ad 83), .ref (ad 84), .ref (ad 85), .ref (ad 86), .ref (ad 87), .ref (ad 88), .ref (ad 89), .int (jI _), .int (jI _), .ref (ad 90), .ref (ad 91), .ref (ad 92), .ref (ad 93), .ref (ad 94), .int (jI _)]) := hkq217
                        replace hTp := (hsq217 80 (by omega)).trans hTp
                        replace hF : ∀ j : Nat, j ≠ 78 → Ew217 j = E0 j := fun j hj => (hsq217 j (by omega)).trans (hF j hj)
                        refine J_goto (q := 146) X dX10_readsOn_220 (by decide) ?_
                        have hlt : u < m0 ∧ fig (tb u) := by rcases hbu with z | z <;> omega
                        have hbe : bt tb m0 u = tb u := if_pos hlt.1
                        have hsg := sc_go (P := (fun j => fig (tb j))) hlt.1 hlt.2
                        first
                          | exact ih146 _ _ _ (by omega) (by rw [hsg]; exact hsn) (by omega) (fun z => by omega) hM hTp hF (by omega)
                          | (rw [hbe] at hM
                             have hnv : 10 * v + tb u - 48 = nv tb t (u + 1) := by
                               have := nv_step hu.1 hvv (by omega)
                               omega
                             have hub := nv_bd (tb := tb) (tl := m0) (a := t) (t := u + 1) (by omega) (by omega) (fun j a b => by
                               by_cases e : j = u
                               · rw [e]; exact hlt.2
                               · exact (sc_of (P := (fun j => fig (tb j))) m0 t).2.2.1 j a (by have := (sc_of (P := (fun j => fig (tb j))) m0 u).1; show j < tkN tb m0 t; rw [← hsn]; omega))
                             exact ih146 _ _ _ (by omega) (by rw [hsg]; exact hsn) (by omega) (fun _ => hnv) hM hTp hF (by omega))
                exact lp146 1000 _ _ _ (by omega) rfl (by omega) (fun _ => by unfold nv; rw [if_pos rfl]) hM hTp hF (by omega)
            · have lp90 : ∀ (m9n : Nat) (u : Int) (E : Nat → va_E) (hu : t ≤ u ∧ u ≤ m0) (hsl : sc (fun j => ltr (tb j)) m0 u = tkL tb m0 t) (hM : E 78 = .inr (9, [.ref (ad 79), .ref (ad 80), .int (jI m0), .int (jI m1), .int (jI 0), .int (jI m3), .int (jI u), .int (jI t), .int (jI m6), .int (jI 0), .int (jI m8), .int (jI m9), .int (jI (-4)), .int (jI m11), .ref (ad 81), .ref (ad 82), .ref (ad 83), .ref (ad 84), .ref (ad 85), .ref (ad 86), .ref (ad 87), .ref (ad 88), .ref (ad 89), .int (jI m12), .int (jI m13), .ref (ad 90), .ref (ad 91), .ref (ad 92), .ref (ad 93), .ref (ad 94), .int (jI m14)])) (hTp : E 80 = aI Γ 160 tb) (hF : ∀ j : Nat, j ≠ 78 → E j = E0 j) (hmn : m0 + 1 - u ≤ (m9n : Int)), J l Γ Ω 2 ad 95 0 0 E 90 [some (.ref (ad 78)), some (.int (jI (bt tb m0 t)))] [] := by
                intro m9n
                induction m9n with
                | zero => intro u E hu hsl hM hTp hF hmn; exfalso; omega
                | succ m9n ih90 =>
                  intro u E hu hsl hM hTp hF hmn
                  have hbu := bt_in htb (k := u) (by omega)
                  refine J_aload_n (q := 91) X dX10_readsOn_90 rfl rfl ?_
                  refine J_aload_n (q := 92) X dX10_readsOn_91 rfl rfl ?_
                  refine J_get (q := 95) X dX10_readsOn_92 fX10_89 hM (by omega) rfl rfl ?_
                  refine J_callP (q := 98) (jrV X mX10_92 dX10_readsOn_95 (c_X10_byteAt hM hTp htb (by omega)) hM (by omega) rfl rfl rfl rfl (Nat.le_of_ble_eq_true rfl) (by decide)) rfl ?_
                  refine J_i2l (q := 99) X dX10_readsOn_98 rfl (by omega) ?_
                  refine J_ldc2 (q := 102) X dX10_readsOn_99 kX10_82 rfl ?_
                  refine J_ldc2 (q := 105) X dX10_readsOn_102 kX10_84 rfl ?_
                  refine J_callP (q := 108) (jrS X mX10_61 dX10_readsOn_105 (c_X10_in (by omega) (by omega) (by omega)) rfl rfl (Nat.le_of_ble_eq_true rfl) (by decide)) rfl ?_
                  refine J_if_eqB (q := 111) (tgt := 124) X dX10_readsOn_108 (by decide) rfl (fun cq108 => ?_) (fun cq108 => ?_)
                  · have hul : tkL tb m0 t = u := by
                      rw [← hsl]
                      exact sc_stop (P := (fun j => ltr (tb j))) (fun z => by rcases hbu with y | y <;> omega)
                    refine J_aload_n (q := 125) X dX10_readsOn_124 rfl rfl ?_
                    refine J_iconst (q := 126) X dX10_readsOn_125 rfl ?_
                    refine J_put (q := 129) (ty := .int) X dX10_readsOn_126 fX10_86 rfl (by decide +kernel) rfl rfl hM (by omega) (Nat.le_of_ble_eq_true rfl) rfl (fun Ew126 hkq126 hsq126 => ?_)
                    replace hM : Ew126 78 = .inr (9, [.ref (ad 79), .ref (ad 80), .int (jI _), .int (jI _), .int (jI _), .int (jI _), .int (jI _), .int (jI _), .int (jI _), .int (jI _), .int (jI _), .int (jI _), .int (jI _), .int (jI _), .ref (ad 81), .ref (ad 82), .ref (ad 83), .ref (ad 84), .ref (ad 85), .ref (ad 86), .ref (ad 87), .ref (ad 88), .ref (ad 89), .int (jI _), .int (jI _), .ref (ad 90), .ref (ad 91), .ref (ad 92), .ref (ad 93), .ref (ad 94), .int (jI _)]) := hkq126
                    replace hTp := (hsq126 80 (by omega)).trans hTp
                    replace hF : ∀ j : Nat, j ≠ 78 → Ew126 j = E0 j := fun j hj => (hsq126 j (by omega)).trans (hF j hj)
                    refine J_goto (q := 288) X dX10_readsOn_129 (by decide) ?_
                    refine J_vret X R dX10_readsOn_288 ?_
                    rw [hE0] at hF
                    first
                      | exact ⟨rfl, _, _, _, _, _, _, _, _, hM, RD_end (by omega) hta (by omega), hF⟩
                      | exact ⟨rfl, _, _, _, _, _, _, _, _, hM, RD_name (by omega) (by omega) hta (by omega) (by omega) hul, hF⟩
                      | exact ⟨rfl, _, _, _, _, _, _, _, _, hM, RD_num (by omega) (by omega) hta (by omega) (by omega) hun hvb (hvv (by omega)) (by omega), hF⟩
                      | exact ⟨rfl, _, _, _, _, _, _, _, _, hM, RD_numbad (by omega) (by omega) hta (by omega) (by omega) hun hvb (by omega), hF⟩
                      | exact ⟨rfl, _, _, _, _, _, _, _, _, hM, RD_semi (by omega) hta (by omega) (by omega), hF⟩
                      | exact ⟨rfl, _, _, _, _, _, _, _, _, hM, RD_semibad (by omega) (by omega) hta (by omega) (by omega) (by omega) (by omega) (by omega), hF⟩
                      | exact ⟨rfl, _, _, _, _, _, _, _, _, hM, RD_quote hbdq256 hta (by omega) (by omega) hokq256 hnoq256, hF⟩
                  · refine J_aload_n (q := 112) X dX10_readsOn_111 rfl rfl ?_
                    refine J_dup (q := 113) X dX10_readsOn_112 rfl rfl ?_
                    refine J_get (q := 116) X dX10_readsOn_113 fX10_89 hM (by omega) rfl rfl ?_
                    refine J_iconst (q := 117) X dX10_readsOn_116 rfl ?_
                    refine J_iadd (q := 118) X dX10_readsOn_117 rfl ?_
                    refine J_put (q := 121) (ty := .int) X dX10_readsOn_118 fX10_89 rfl (by decide +kernel) rfl rfl hM (by omega) (Nat.le_of_ble_eq_true rfl) rfl (fun Ew118 hkq118 hsq118 => ?_)
                    replace hM : Ew118 78 = .inr (9, [.ref (ad 79), .ref (ad 80), .int (jI _), .int (jI _), .int (jI _), .int (jI _), .int (jI _), .int (jI _), .int (jI _), .int (jI _), .int (jI _), .int (jI _), .int (jI _), .int (jI _), .ref (ad 81), .ref (ad 82), .ref (ad 83), .ref (ad 84), .ref (ad 85), .ref (ad 86), .ref (ad 87), .ref (ad 88), .ref (ad 89), .int (jI _), .int (jI _), .ref (ad 90), .ref (ad 91), .ref (ad 92), .ref (ad 93), .ref (ad 94), .int (jI _)]) := hkq118
                    replace hTp := (hsq118 80 (by omega)).trans hTp
                    replace hF : ∀ j : Nat, j ≠ 78 → Ew118 j = E0 j := fun j hj => (hsq118 j (by omega)).trans (hF j hj)
                    refine J_goto (q := 90) X dX10_readsOn_121 (by decide) ?_
                    have hlt : u < m0 ∧ ltr (tb u) := by rcases hbu with z | z <;> omega
                    exact ih90 _ _ (by omega) (by rw [sc_go (P := (fun j => ltr (tb j))) hlt.1 hlt.2]; exact hsl) hM hTp hF (by omega)
              exact lp90 1000 _ _ (by omega) rfl hM hTp hF (by omega)
          · refine J_aload_n (q := 69) X dX10_readsOn_68 rfl rfl ?_
            refine J_iconst (q := 70) X dX10_readsOn_69 rfl ?_
            refine J_put (q := 73) (ty := .int) X dX10_readsOn_70 fX10_86 rfl (by decide +kernel) rfl rfl hM (by omega) (Nat.le_of_ble_eq_true rfl) rfl (fun Ew70 hkq70 hsq70 => ?_)
            replace hM : Ew70 78 = .inr (9, [.ref (ad 79), .ref (ad 80), .int (jI _), .int (jI _), .int (jI _), .int (jI _), .int (jI _), .int (jI _), .int (jI _), .int (jI _), .int (jI _), .int (jI _), .int (jI _), .int (jI _), .ref (ad 81), .ref (ad 82), .ref (ad 83), .ref (ad 84), .ref (ad 85), .ref (ad 86), .ref (ad 87), .ref (ad 88), .ref (ad 89), .int (jI _), .int (jI _), .ref (ad 90), .ref (ad 91), .ref (ad 92), .ref (ad 93), .ref (ad 94), .int (jI _)]) := hkq70
            replace hTp := (hsq70 80 (by omega)).trans hTp
            replace hF : ∀ j : Nat, j ≠ 78 → Ew70 j = E0 j := fun j hj => (hsq70 j (by omega)).trans (hF j hj)
            refine J_goto (q := 288) X dX10_readsOn_73 (by decide) ?_
            refine J_vret X R dX10_readsOn_288 ?_
            rw [hE0] at hF
            first
              | exact ⟨rfl, _, _, _, _, _, _, _, _, hM, RD_end (by omega) hta (by omega), hF⟩
              | exact ⟨rfl, _, _, _, _, _, _, _, _, hM, RD_name (by omega) (by omega) hta (by omega) (by omega) hul, hF⟩
              | exact ⟨rfl, _, _, _, _, _, _, _, _, hM, RD_num (by omega) (by omega) hta (by omega) (by omega) hun hvb (hvv (by omega)) (by omega), hF⟩
              | exact ⟨rfl, _, _, _, _, _, _, _, _, hM, RD_numbad (by omega) (by omega) hta (by omega) (by omega) hun hvb (by omega), hF⟩
              | exact ⟨rfl, _, _, _, _, _, _, _, _, hM, RD_semi (by omega) hta (by omega) (by omega), hF⟩
              | exact ⟨rfl, _, _, _, _, _, _, _, _, hM, RD_semibad (by omega) (by omega) hta (by omega) (by omega) (by omega) (by omega) (by omega), hF⟩
              | exact ⟨rfl, _, _, _, _, _, _, _, _, hM, RD_quote hbdq256 hta (by omega) (by omega) hokq256 hnoq256, hF⟩
        · refine J_aload_n (q := 22) X dX10_readsOn_21 rfl rfl ?_
          refine J_dup (q := 23) X dX10_readsOn_22 rfl rfl ?_
          refine J_get (q := 26) X dX10_readsOn_23 fX10_89 hM (by omega) rfl rfl ?_
          refine J_iconst (q := 27) X dX10_readsOn_26 rfl ?_
          refine J_iadd (q := 28) X dX10_readsOn_27 rfl ?_
          refine J_put (q := 31) (ty := .int) X dX10_readsOn_28 fX10_89 rfl (by decide +kernel) rfl rfl hM (by omega) (Nat.le_of_ble_eq_true rfl) rfl (fun Ew28 hkq28 hsq28 => ?_)
          replace hM : Ew28 78 = .inr (9, [.ref (ad 79), .ref (ad 80), .int (jI _), .int (jI _), .int (jI _), .int (jI _), .int (jI _), .int (jI _), .int (jI _), .int (jI _), .int (jI _), .int (jI _), .int (jI _), .int (jI _), .ref (ad 81), .ref (ad 82), .ref (ad 83), .ref (ad 84), .ref (ad 85), .ref (ad 86), .ref (ad 87), .ref (ad 88), .ref (ad 89), .int (jI _), .int (jI _), .ref (ad 90), .ref (ad 91), .ref (ad 92), .ref (ad 93), .ref (ad 94), .int (jI _)]) := hkq28
          replace hTp := (hsq28 80 (by omega)).trans hTp
          replace hF : ∀ j : Nat, j ≠ 78 → Ew28 j = E0 j := fun j hj => (hsq28 j (by omega)).trans (hF j hj)
          refine J_goto (q := 8) X dX10_readsOn_31 (by decide) ?_
          have hlt : t < m0 ∧ tb t = 32 := by rcases hbt with z | z <;> omega
          exact ih8 _ _ (by omega) (by rw [sc_go (P := (fun j => tb j = 32)) hlt.1 hlt.2]; exact hsc) hM hTp hF (by omega)
    exact lp8 1000 _ _ (by omega) rfl hM hTp hF (by omega)
  · refine J_vret X R dX10_readsOn_7 ?_
    exfalso
    omega

set_option maxRecDepth 100000 in
set_option maxHeartbeats 4000000 in
theorem c_X10_readsOnB {l : Launch} {Γ : JG} {ad : Nat → Nat} {E : Nat → va_E} {m0 m1 m2 m3 m4 m5 m6 m7 m8 m9 m10 m11 m12 m13 m14 : Int} (hM : E 78 = .inr (9, [.ref (ad 79), .ref (ad 80), .int (jI m0), .int (jI m1), .int (jI m2), .int (jI m3), .int (jI m4), .int (jI m5), .int (jI m6), .int (jI m7), .int (jI m8), .int (jI m9), .int (jI m10), .int (jI m11), .ref (ad 81), .ref (ad 82), .ref (ad 83), .ref (ad 84), .ref (ad 85), .ref (ad 86), .ref (ad 87), .ref (ad 88), .ref (ad 89), .int (jI m12), .int (jI m13), .ref (ad 90), .ref (ad 91), .ref (ad 92), .ref (ad 93), .ref (ad 94), .int (jI m14)])) (hb2 : 0 < m2 ∧ m2 ≤ 100) : JM l Γ yX10_readsOn cX10_readsOn 2 none 3 65 0 0 ad 95 E [.ref (ad 78)] (pV (fun E' => E' = E)) := by
  refine JM_intro (own := RX10) [some (.ref (ad 78)), none] rfl rfl rfl (Nat.le_of_ble_eq_true rfl) ?_
  intro Ω X R hin
  refine J_aload_n (q := 1) X dX10_readsOn_0 rfl rfl ?_
  refine J_get (q := 4) X dX10_readsOn_1 fX10_69 hM (by omega) rfl rfl ?_
  refine J_if_le (q := 7) (tgt := 8) X dX10_readsOn_4 (by decide) rfl (by omega) (fun cq4 => ?_) (fun cq4 => ?_)
  · exfalso; omega
  · refine J_vret X R dX10_readsOn_7 ?_
    exact ⟨rfl, rfl⟩
