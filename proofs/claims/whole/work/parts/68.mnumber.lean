set_option maxRecDepth 100000 in
theorem c_X10_readsOnT {l : Launch} {Γ : JG} {ad : Nat → Nat} {E : Nat → va_E} {m0 m1 m2 m3 m4 m5 m6 m7 m8 m9 m10 m11 m12 m13 m14 : Int} {tb : Int → Int} {r : RS} {z0 x mg ti : Int} {g ma : Int → Int} (hM : E 78 = .inr (9, [.ref (ad 79), .ref (ad 80), .int (jI m0), .int (jI m1), .int (jI m2), .int (jI m3), .int (jI m4), .int (jI m5), .int (jI m6), .int (jI m7), .int (jI m8), .int (jI m9), .int (jI m10), .int (jI m11), .ref (ad 81), .ref (ad 82), .ref (ad 83), .ref (ad 84), .ref (ad 85), .ref (ad 86), .ref (ad 87), .ref (ad 88), .ref (ad 89), .int (jI m12), .int (jI m13), .ref (ad 90), .ref (ad 91), .ref (ad 92), .ref (ad 93), .ref (ad 94), .int (jI m14)])) (hTp : E 80 = aI Γ 160 tb) (htb : TB m0 tb) (hpd : PD r tb m0 z0 x mg ti m2 m3 m4 m5 m7 m8 m9 m10 g ma) : JM l Γ yX10_readsOn cX10_readsOn 2 none 3 65 0 0 ad 95 E [.ref (ad 78)] (pV (fun E' => ∃ b ba t h k v y q : Int, E' 78 = .inr (9, [.ref (ad 79), .ref (ad 80), .int (jI m0), .int (jI m1), .int (jI b), .int (jI ba), .int (jI t), .int (jI h), .int (jI k), .int (jI v), .int (jI m8), .int (jI m9), .int (jI y), .int (jI q), .ref (ad 81), .ref (ad 82), .ref (ad 83), .ref (ad 84), .ref (ad 85), .ref (ad 86), .ref (ad 87), .ref (ad 88), .ref (ad 89), .int (jI m12), .int (jI m13), .ref (ad 90), .ref (ad 91), .ref (ad 92), .ref (ad 93), .ref (ad 94), .int (jI m14)]) ∧ TQ r tb m0 z0 x mg ti b ba t h k v m8 m9 y g ma ∧ (m2 ≠ 0 → b ≠ 0) ∧ ∀ j : Nat, j ≠ 78 → E' j = E j)) := by
  by_cases h0 : m2 = 0
  · subst h0
    have hpo := hpd.2.2 rfl
    have ht : 0 ≤ m4 ∧ m4 ≤ m0 := by obtain ⟨fu, n, f, h1, -⟩ := hpo; omega
    refine JM_post (c_X10_readsOn hM hTp htb ht) (fun rv E' hh => ?_)
    obtain ⟨hr, b, ba, t, h, k, v, y, q, h1, h2, h3⟩ := hh
    exact ⟨hr, b, ba, t, h, k, v, y, q, h1, PO_rd hpo h2, fun z => absurd rfl z, h3⟩
  · have hb := hpd.1
    refine JM_post (c_X10_readsOnB hM (by omega)) (fun rv E' hh => ?_)
    obtain ⟨hr, rfl⟩ := hh
    obtain ⟨⟨hv, hbd⟩, hbl⟩ := hpd.2.1 h0
    exact ⟨hr, m2, m3, m4, m5, m6, m7, m10, m11, hM, ⟨⟨hv, hbd, hb⟩, fun _ => hbl, fun z => absurd z h0⟩, fun _ => h0, fun _ _ => rfl⟩
set_option maxRecDepth 100000 in
set_option maxHeartbeats 4000000 in
theorem c_X10_takes {l : Launch} {Γ : JG} {ad : Nat → Nat} {E : Nat → va_E} {m0 m1 m2 m3 m4 m5 m6 m7 m8 m9 m10 m11 m12 m13 m14 : Int} {tb : Int → Int} {r : RS} {z0 x mg ti : Int} {g ma : Int → Int} (hM : E 78 = .inr (9, [.ref (ad 79), .ref (ad 80), .int (jI m0), .int (jI m1), .int (jI m2), .int (jI m3), .int (jI m4), .int (jI m5), .int (jI m6), .int (jI m7), .int (jI m8), .int (jI m9), .int (jI m10), .int (jI m11), .ref (ad 81), .ref (ad 82), .ref (ad 83), .ref (ad 84), .ref (ad 85), .ref (ad 86), .ref (ad 87), .ref (ad 88), .ref (ad 89), .int (jI m12), .int (jI m13), .ref (ad 90), .ref (ad 91), .ref (ad 92), .ref (ad 93), .ref (ad 94), .int (jI m14)])) (hTp : E 80 = aI Γ 160 tb) (htb : TB m0 tb) (hpd : PD r tb m0 z0 x mg ti m2 m3 m4 m5 m7 m8 (if m2 = 0 then m9 + 1 else m9) m10 g ma) : JM l Γ yX10_takes cX10_takes 1 none 4 86 0 0 ad 95 E [.ref (ad 78)] (pV (fun E' => ∃ b ba t h k v y q : Int, E' 78 = .inr (9, [.ref (ad 79), .ref (ad 80), .int (jI m0), .int (jI m1), .int (jI b), .int (jI ba), .int (jI t), .int (jI h), .int (jI k), .int (jI v), .int (jI m8), .int (jI (if m2 = 0 then m9 + 1 else m9)), .int (jI y), .int (jI q), .ref (ad 81), .ref (ad 82), .ref (ad 83), .ref (ad 84), .ref (ad 85), .ref (ad 86), .ref (ad 87), .ref (ad 88), .ref (ad 89), .int (jI m12), .int (jI m13), .ref (ad 90), .ref (ad 91), .ref (ad 92), .ref (ad 93), .ref (ad 94), .int (jI m14)]) ∧ TQ r tb m0 z0 x mg ti b ba t h k v m8 (if m2 = 0 then m9 + 1 else m9) y g ma ∧ (m2 ≠ 0 → b ≠ 0) ∧ ∀ j : Nat, j ≠ 78 → E' j = E j)) := by
  refine JM_intro (own := RX10) [some (.ref (ad 78))] rfl rfl rfl (Nat.le_of_ble_eq_true rfl) ?_
  intro Ω X R hin
  obtain ⟨E0, hE0⟩ : ∃ E0 : Nat → va_E, E0 = E := ⟨_, rfl⟩
  have hF : ∀ j : Nat, j ≠ 78 → E j = E0 j := fun _ _ => by rw [hE0]
  have hb5 := hpd.1
  refine J_aload_n (q := 1) X dX10_takes_0 rfl rfl ?_
  refine J_get (q := 4) X dX10_takes_1 fX10_69 hM (by omega) rfl rfl ?_
  refine J_if_ne (q := 7) (tgt := 17) X dX10_takes_4 (by decide) rfl (by omega) (fun cq4 => ?_) (fun cq4 => ?_)
  · refine J_aload_n (q := 18) X dX10_takes_17 rfl rfl ?_
    refine J_callV (q := 21) (jrV X mX10_122 dX10_takes_18 (c_X10_readsOnT hM hTp htb (by first | (rw [if_pos cq4] at hpd; exact hpd) | (rw [if_neg cq4] at hpd; exact hpd))) hM (by omega) rfl rfl rfl rfl (Nat.le_of_ble_eq_true rfl) (by decide)) rfl (fun Ew18 hpq18 => ?_)
    obtain ⟨bq18, baq18, sq18, hq18, kq18, vq18, yq18, qq18, kM, htq18, hbrq18, hsq18⟩ := hpq18
    replace hM := kM
    replace hTp := (hsq18 80 (by omega)).trans hTp
    replace hF : ∀ j : Nat, j ≠ 78 → Ew18 j = E0 j := fun j hj => (hsq18 j (by omega)).trans (hF j hj)
    refine J_vret X R dX10_takes_21 ?_
    rw [hE0] at hF
    first
      | (rw [if_pos cq4]; exact ⟨rfl, _, _, _, _, _, _, _, _, hM, htq18, hbrq18, hF⟩)
      | (rw [if_neg cq4]; exact ⟨rfl, _, _, _, _, _, _, _, _, hM, htq18, hbrq18, hF⟩)
  · refine J_aload_n (q := 8) X dX10_takes_7 rfl rfl ?_
    refine J_dup (q := 9) X dX10_takes_8 rfl rfl ?_
    refine J_get (q := 12) X dX10_takes_9 fX10_119 hM (by omega) rfl rfl ?_
    refine J_iconst (q := 13) X dX10_takes_12 rfl ?_
    refine J_iadd (q := 14) X dX10_takes_13 rfl ?_
    refine J_put (q := 17) (ty := .int) X dX10_takes_14 fX10_119 rfl (by decide +kernel) rfl rfl hM (by omega) (Nat.le_of_ble_eq_true rfl) rfl (fun Ew14 hkq14 hsq14 => ?_)
    replace hM : Ew14 78 = .inr (9, [.ref (ad 79), .ref (ad 80), .int (jI _), .int (jI _), .int (jI _), .int (jI _), .int (jI _), .int (jI _), .int (jI _), .int (jI _), .int (jI _), .int (jI _), .int (jI _), .int (jI _), .ref (ad 81), .ref (ad 82), .ref (ad 83), .ref (ad 84), .ref (ad 85), .ref (ad 86), .ref (ad 87), .ref (ad 88), .ref (ad 89), .int (jI _), .int (jI _), .ref (ad 90), .ref (ad 91), .ref (ad 92), .ref (ad 93), .ref (ad 94), .int (jI _)]) := hkq14
    replace hTp := (hsq14 80 (by omega)).trans hTp
    replace hF : ∀ j : Nat, j ≠ 78 → Ew14 j = E0 j := fun j hj => (hsq14 j (by omega)).trans (hF j hj)
    refine J_aload_n (q := 18) X dX10_takes_17 rfl rfl ?_
    refine J_callV (q := 21) (jrV X mX10_122 dX10_takes_18 (c_X10_readsOnT hM hTp htb (by first | (rw [if_pos cq4] at hpd; exact hpd) | (rw [if_neg cq4] at hpd; exact hpd))) hM (by omega) rfl rfl rfl rfl (Nat.le_of_ble_eq_true rfl) (by decide)) rfl (fun Ew18 hpq18 => ?_)
    obtain ⟨bq18, baq18, sq18, hq18, kq18, vq18, yq18, qq18, kM, htq18, hbrq18, hsq18⟩ := hpq18
    replace hM := kM
    replace hTp := (hsq18 80 (by omega)).trans hTp
    replace hF : ∀ j : Nat, j ≠ 78 → Ew18 j = E0 j := fun j hj => (hsq18 j (by omega)).trans (hF j hj)
    refine J_vret X R dX10_takes_21 ?_
    rw [hE0] at hF
    first
      | (rw [if_pos cq4]; exact ⟨rfl, _, _, _, _, _, _, _, _, hM, htq18, hbrq18, hF⟩)
      | (rw [if_neg cq4]; exact ⟨rfl, _, _, _, _, _, _, _, _, hM, htq18, hbrq18, hF⟩)

set_option maxRecDepth 100000 in
set_option maxHeartbeats 4000000 in
theorem c_X10_numberRead {l : Launch} {Γ : JG} {ad : Nat → Nat} {E : Nat → va_E} {m0 m1 m2 m3 m4 m5 m6 m7 m8 m9 m10 m11 m12 m13 m14 : Int} {tb : Int → Int} {r : RS} {z0 mg ti : Int} {g ma : Int → Int} {lo hi : Int} (hM : E 78 = .inr (9, [.ref (ad 79), .ref (ad 80), .int (jI m0), .int (jI m1), .int (jI m2), .int (jI m3), .int (jI m4), .int (jI m5), .int (jI m6), .int (jI m7), .int (jI m8), .int (jI m9), .int (jI m10), .int (jI m11), .ref (ad 81), .ref (ad 82), .ref (ad 83), .ref (ad 84), .ref (ad 85), .ref (ad 86), .ref (ad 87), .ref (ad 88), .ref (ad 89), .int (jI m12), .int (jI m13), .ref (ad 90), .ref (ad 91), .ref (ad 92), .ref (ad 93), .ref (ad 94), .int (jI m14)])) (hTp : E 80 = aI Γ 160 tb) (htb : TB m0 tb) (htq : TQ r tb m0 z0 2 mg ti m2 m3 m4 m5 m6 m7 m8 m9 m10 g ma) (hmg : (mg = 1 ∧ lo = 0 ∧ hi = 59) ∨ (mg = 0 ∧ lo = 1 ∧ hi = 9)) : JM l Γ yX10_numberRead cX10_numberRead 4 (some .int) 5 106 0 0 ad 95 E [.ref (ad 78), .int (jI lo), .int (jI hi)] (pI (fun z E' => ∃ b ba t h k v y q tk : Int, E' 78 = .inr (9, [.ref (ad 79), .ref (ad 80), .int (jI m0), .int (jI m1), .int (jI b), .int (jI ba), .int (jI t), .int (jI h), .int (jI k), .int (jI v), .int (jI m8), .int (jI tk), .int (jI y), .int (jI q), .ref (ad 81), .ref (ad 82), .ref (ad 83), .ref (ad 84), .ref (ad 85), .ref (ad 86), .ref (ad 87), .ref (ad 88), .ref (ad 89), .int (jI m12), .int (jI m13), .ref (ad 90), .ref (ad 91), .ref (ad 92), .ref (ad 93), .ref (ad 94), .int (jI m14)]) ∧ (lo ≤ z ∧ z ≤ hi) ∧ TQ r tb m0 z0 (if mg = 1 then 3 else 4) mg (if mg = 1 then ti else z) b ba t h k v m8 tk y g (if mg = 1 then iu ma z 1 else ma) ∧ ∀ j : Nat, j ≠ 78 → E' j = E j)) := by
  refine JM_intro (own := RX10) [some (.ref (ad 78)), some (.int (jI lo)), some (.int (jI hi)), none] rfl rfl rfl (Nat.le_of_ble_eq_true rfl) ?_
  intro Ω X R hin
  obtain ⟨E0, hE0⟩ : ∃ E0 : Nat → va_E, E0 = E := ⟨_, rfl⟩
  have hF : ∀ j : Nat, j ≠ 78 → E j = E0 j := fun _ _ => by rw [hE0]
  obtain ⟨⟨hvb, hthb, hbb⟩, -, -⟩ := id htq
  have hkb : m2 = 0 → 0 ≤ m6 ∧ m6 ≤ 4 := fun z => by subst z; exact (TQ_b htq).2.2.2.1
  refine J_aload_n (q := 1) X dX10_numberRead_0 rfl rfl ?_
  refine J_get (q := 4) X dX10_numberRead_1 fX10_69 hM (by omega) rfl rfl ?_
  refine J_if_ne (q := 7) (tgt := 20) X dX10_numberRead_4 (by decide) rfl (by omega) (fun cq4 => ?_) (fun cq4 => ?_)
  · refine J_aload_n (q := 21) X dX10_numberRead_20 rfl rfl ?_
    refine J_get (q := 24) X dX10_numberRead_21 fX10_69 hM (by omega) rfl rfl ?_
    refine J_if_ne (q := 27) (tgt := 47) X dX10_numberRead_24 (by decide) rfl (by omega) (fun cq24 => ?_) (fun cq24 => ?_)
    · refine J_aload_n (q := 48) X dX10_numberRead_47 rfl rfl ?_
      refine J_get (q := 51) X dX10_numberRead_48 fX10_109 hM (by omega) rfl rfl ?_
      refine J_istore_n (q := 52) X dX10_numberRead_51 (by decide) rfl rfl ?_
      refine J_aload_n (q := 53) X dX10_numberRead_52 rfl rfl ?_
      refine J_callV (q := 56) (jrV X mX10_125 dX10_numberRead_53 (c_X10_takes (r := r) (z0 := z0) (x := if mg = 1 then 3 else 4) (mg := mg) (ti := if mg = 1 then ti else m7) (g := g) (ma := if mg = 1 then iu ma m7 1 else ma) hM hTp htb (by
    first
      | (rw [if_neg (show ¬ m2 = 0 by omega)]; exact TQ_br (by omega) htq)
      | (rw [if_neg (show ¬ (2 : Int) = 0 by decide)]; exact TQ_ne htq (by omega) (by omega))
      | (rw [if_neg (show ¬ (3 : Int) = 0 by decide)]; exact TQ_bad htq (by omega) (by omega) (by unfold fT; rw [if_neg (by decide), if_pos rfl, if_neg (by unfold okW; omega)]) (by omega))
      | (obtain rfl : m2 = 0 := by assumption
         have hgo := TQ_go1 (ba' := m3) (h' := m5) (v' := m7) (y' := m10) htq (by omega) (by omega) (by omega) (by unfold fT; rw [if_neg (by decide), if_pos rfl, if_pos (by unfold okW; omega)])
         have e1 : xT tb m5 m4 2 mg = (if mg = 1 then 3 else 4) := by unfold xT; rw [if_neg (by decide), if_pos rfl]
         have e2 : mkT tb m5 m4 2 mg = mg := by unfold mkT; rw [if_neg (by decide)]
         have e3 : tiT m7 2 mg ti = (if mg = 1 then ti else m7) := by unfold tiT; rw [if_neg (by decide)]; by_cases e : mg = 1; (rw [if_neg (fun z => z.2 e), if_pos e]); (rw [if_pos ⟨rfl, e⟩, if_neg e])
         have e4 : maT m7 2 mg ma = (if mg = 1 then iu ma m7 1 else ma) := by unfold maT; by_cases e : mg = 1; (rw [if_pos ⟨rfl, e⟩, if_pos e]); (rw [if_neg (fun z => e z.2), if_neg e])
         have e5 : lnT 2 m8 = m8 := by unfold lnT; rw [if_neg (by decide)]
         have e6 : tkT 2 m9 = m9 + 1 := by unfold tkT; rw [if_neg (by decide)]
         rw [e1, e2, e3, e4, e5, e6] at hgo
         rw [if_pos (show (0 : Int) = 0 from rfl)]
         exact PD_lo (by omega) hgo))) hM (by omega) rfl rfl rfl rfl (Nat.le_of_ble_eq_true rfl) (by decide)) rfl (fun Ew53 hpq53 => ?_)
      obtain ⟨bq53, baq53, sq53, hq53, kq53, vq53, yq53, qq53, kM, htq53, hbrq53, hsq53⟩ := hpq53
      replace hM := kM
      obtain ⟨⟨-, -, hbb53⟩, -, -⟩ := id htq53
      replace hTp := (hsq53 80 (by omega)).trans hTp
      replace hF : ∀ j : Nat, j ≠ 78 → Ew53 j = E0 j := fun j hj => (hsq53 j (by omega)).trans (hF j hj)
      refine J_aload_n (q := 57) X dX10_numberRead_56 rfl rfl ?_
      refine J_get (q := 60) X dX10_numberRead_57 fX10_69 hM (by omega) rfl rfl ?_
      refine J_if_ne (q := 63) (tgt := 67) X dX10_numberRead_60 (by decide) rfl (by omega) (fun cq60 => ?_) (fun cq60 => ?_)
      · refine J_iload_n (q := 68) X dX10_numberRead_67 rfl rfl ?_
        refine J_iret X R dX10_numberRead_68 ?_
        rw [hE0] at hF
        first
          | exact ⟨_, rfl, _, _, _, _, _, _, _, _, _, hM, by omega, TQ_sw cq60 htq53, hF⟩
          | exact ⟨_, rfl, _, _, _, _, _, _, _, _, _, hM, by omega, htq53, hF⟩
          | exact absurd cq60 (hbrq53 (by omega))
      · refine J_iload_n (q := 64) X dX10_numberRead_63 rfl rfl ?_
        refine J_goto (q := 68) X dX10_numberRead_64 (by decide) ?_
        refine J_iret X R dX10_numberRead_68 ?_
        rw [hE0] at hF
        first
          | exact ⟨_, rfl, _, _, _, _, _, _, _, _, _, hM, by omega, TQ_sw cq60 htq53, hF⟩
          | exact ⟨_, rfl, _, _, _, _, _, _, _, _, _, hM, by omega, htq53, hF⟩
          | exact absurd cq60 (hbrq53 (by omega))
    · exfalso; omega
  · refine J_aload_n (q := 8) X dX10_numberRead_7 rfl rfl ?_
    refine J_get (q := 11) X dX10_numberRead_8 fX10_86 hM (by omega) rfl rfl ?_
    refine J_iconst (q := 12) X dX10_numberRead_11 rfl ?_
    refine J_icmp_eq (q := 15) (tgt := 20) X dX10_numberRead_12 (by decide) rfl (by have := hkb (by omega); omega) (by omega) (fun cq12 => ?_) (fun cq12 => ?_)
    · refine J_aload_n (q := 21) X dX10_numberRead_20 rfl rfl ?_
      refine J_get (q := 24) X dX10_numberRead_21 fX10_69 hM (by omega) rfl rfl ?_
      refine J_if_ne (q := 27) (tgt := 47) X dX10_numberRead_24 (by decide) rfl (by omega) (fun cq24 => ?_) (fun cq24 => ?_)
      · refine J_aload_n (q := 48) X dX10_numberRead_47 rfl rfl ?_
        refine J_get (q := 51) X dX10_numberRead_48 fX10_109 hM (by omega) rfl rfl ?_
        refine J_istore_n (q := 52) X dX10_numberRead_51 (by decide) rfl rfl ?_
        refine J_aload_n (q := 53) X dX10_numberRead_52 rfl rfl ?_
        refine J_callV (q := 56) (jrV X mX10_125 dX10_numberRead_53 (c_X10_takes (r := r) (z0 := z0) (x := if mg = 1 then 3 else 4) (mg := mg) (ti := if mg = 1 then ti else m7) (g := g) (ma := if mg = 1 then iu ma m7 1 else ma) hM hTp htb (by
    first
      | (rw [if_neg (show ¬ m2 = 0 by omega)]; exact TQ_br (by omega) htq)
      | (rw [if_neg (show ¬ (2 : Int) = 0 by decide)]; exact TQ_ne htq (by omega) (by omega))
      | (rw [if_neg (show ¬ (3 : Int) = 0 by decide)]; exact TQ_bad htq (by omega) (by omega) (by unfold fT; rw [if_neg (by decide), if_pos rfl, if_neg (by unfold okW; omega)]) (by omega))
      | (obtain rfl : m2 = 0 := by assumption
         have hgo := TQ_go1 (ba' := m3) (h' := m5) (v' := m7) (y' := m10) htq (by omega) (by omega) (by omega) (by unfold fT; rw [if_neg (by decide), if_pos rfl, if_pos (by unfold okW; omega)])
         have e1 : xT tb m5 m4 2 mg = (if mg = 1 then 3 else 4) := by unfold xT; rw [if_neg (by decide), if_pos rfl]
         have e2 : mkT tb m5 m4 2 mg = mg := by unfold mkT; rw [if_neg (by decide)]
         have e3 : tiT m7 2 mg ti = (if mg = 1 then ti else m7) := by unfold tiT; rw [if_neg (by decide)]; by_cases e : mg = 1; (rw [if_neg (fun z => z.2 e), if_pos e]); (rw [if_pos ⟨rfl, e⟩, if_neg e])
         have e4 : maT m7 2 mg ma = (if mg = 1 then iu ma m7 1 else ma) := by unfold maT; by_cases e : mg = 1; (rw [if_pos ⟨rfl, e⟩, if_pos e]); (rw [if_neg (fun z => e z.2), if_neg e])
         have e5 : lnT 2 m8 = m8 := by unfold lnT; rw [if_neg (by decide)]
         have e6 : tkT 2 m9 = m9 + 1 := by unfold tkT; rw [if_neg (by decide)]
         rw [e1, e2, e3, e4, e5, e6] at hgo
         rw [if_pos (show (0 : Int) = 0 from rfl)]
         exact PD_lo (by omega) hgo))) hM (by omega) rfl rfl rfl rfl (Nat.le_of_ble_eq_true rfl) (by decide)) rfl (fun Ew53 hpq53 => ?_)
        obtain ⟨bq53, baq53, sq53, hq53, kq53, vq53, yq53, qq53, kM, htq53, hbrq53, hsq53⟩ := hpq53
        replace hM := kM
        obtain ⟨⟨-, -, hbb53⟩, -, -⟩ := id htq53
        replace hTp := (hsq53 80 (by omega)).trans hTp
        replace hF : ∀ j : Nat, j ≠ 78 → Ew53 j = E0 j := fun j hj => (hsq53 j (by omega)).trans (hF j hj)
        refine J_aload_n (q := 57) X dX10_numberRead_56 rfl rfl ?_
        refine J_get (q := 60) X dX10_numberRead_57 fX10_69 hM (by omega) rfl rfl ?_
        refine J_if_ne (q := 63) (tgt := 67) X dX10_numberRead_60 (by decide) rfl (by omega) (fun cq60 => ?_) (fun cq60 => ?_)
        · refine J_iload_n (q := 68) X dX10_numberRead_67 rfl rfl ?_
          refine J_iret X R dX10_numberRead_68 ?_
          rw [hE0] at hF
          first
            | exact ⟨_, rfl, _, _, _, _, _, _, _, _, _, hM, by omega, TQ_sw cq60 htq53, hF⟩
            | exact ⟨_, rfl, _, _, _, _, _, _, _, _, _, hM, by omega, htq53, hF⟩
            | exact absurd cq60 (hbrq53 (by omega))
        · refine J_iload_n (q := 64) X dX10_numberRead_63 rfl rfl ?_
          refine J_goto (q := 68) X dX10_numberRead_64 (by decide) ?_
          refine J_iret X R dX10_numberRead_68 ?_
          rw [hE0] at hF
          first
            | exact ⟨_, rfl, _, _, _, _, _, _, _, _, _, hM, by omega, TQ_sw cq60 htq53, hF⟩
            | exact ⟨_, rfl, _, _, _, _, _, _, _, _, _, hM, by omega, htq53, hF⟩
            | exact absurd cq60 (hbrq53 (by omega))
      · refine J_aload_n (q := 28) X dX10_numberRead_27 rfl rfl ?_
        refine J_get (q := 31) X dX10_numberRead_28 fX10_109 hM (by omega) rfl rfl ?_
        refine J_i2l (q := 32) X dX10_numberRead_31 rfl (by omega) ?_
        refine J_iload_n (q := 33) X dX10_numberRead_32 rfl rfl ?_
        refine J_i2l (q := 34) X dX10_numberRead_33 rfl (by omega) ?_
        refine J_iload_n (q := 35) X dX10_numberRead_34 rfl rfl ?_
        refine J_i2l (q := 36) X dX10_numberRead_35 rfl (by omega) ?_
        refine J_callP (q := 39) (jrS X mX10_61 dX10_numberRead_36 (c_X10_in (by omega) (by omega) (by omega)) rfl rfl (Nat.le_of_ble_eq_true rfl) (by decide)) rfl ?_
        refine J_if_neB (q := 42) (tgt := 47) X dX10_numberRead_39 (by decide) rfl (fun cq39 => ?_) (fun cq39 => ?_)
        · refine J_aload_n (q := 48) X dX10_numberRead_47 rfl rfl ?_
          refine J_get (q := 51) X dX10_numberRead_48 fX10_109 hM (by omega) rfl rfl ?_
          refine J_istore_n (q := 52) X dX10_numberRead_51 (by decide) rfl rfl ?_
          refine J_aload_n (q := 53) X dX10_numberRead_52 rfl rfl ?_
          refine J_callV (q := 56) (jrV X mX10_125 dX10_numberRead_53 (c_X10_takes (r := r) (z0 := z0) (x := if mg = 1 then 3 else 4) (mg := mg) (ti := if mg = 1 then ti else m7) (g := g) (ma := if mg = 1 then iu ma m7 1 else ma) hM hTp htb (by
    first
      | (rw [if_neg (show ¬ m2 = 0 by omega)]; exact TQ_br (by omega) htq)
      | (rw [if_neg (show ¬ (2 : Int) = 0 by decide)]; exact TQ_ne htq (by omega) (by omega))
      | (rw [if_neg (show ¬ (3 : Int) = 0 by decide)]; exact TQ_bad htq (by omega) (by omega) (by unfold fT; rw [if_neg (by decide), if_pos rfl, if_neg (by unfold okW; omega)]) (by omega))
      | (obtain rfl : m2 = 0 := by assumption
         have hgo := TQ_go1 (ba' := m3) (h' := m5) (v' := m7) (y' := m10) htq (by omega) (by omega) (by omega) (by unfold fT; rw [if_neg (by decide), if_pos rfl, if_pos (by unfold okW; omega)])
         have e1 : xT tb m5 m4 2 mg = (if mg = 1 then 3 else 4) := by unfold xT; rw [if_neg (by decide), if_pos rfl]
         have e2 : mkT tb m5 m4 2 mg = mg := by unfold mkT; rw [if_neg (by decide)]
         have e3 : tiT m7 2 mg ti = (if mg = 1 then ti else m7) := by unfold tiT; rw [if_neg (by decide)]; by_cases e : mg = 1; (rw [if_neg (fun z => z.2 e), if_pos e]); (rw [if_pos ⟨rfl, e⟩, if_neg e])
         have e4 : maT m7 2 mg ma = (if mg = 1 then iu ma m7 1 else ma) := by unfold maT; by_cases e : mg = 1; (rw [if_pos ⟨rfl, e⟩, if_pos e]); (rw [if_neg (fun z => e z.2), if_neg e])
         have e5 : lnT 2 m8 = m8 := by unfold lnT; rw [if_neg (by decide)]
         have e6 : tkT 2 m9 = m9 + 1 := by unfold tkT; rw [if_neg (by decide)]
         rw [e1, e2, e3, e4, e5, e6] at hgo
         rw [if_pos (show (0 : Int) = 0 from rfl)]
         exact PD_lo (by omega) hgo))) hM (by omega) rfl rfl rfl rfl (Nat.le_of_ble_eq_true rfl) (by decide)) rfl (fun Ew53 hpq53 => ?_)
          obtain ⟨bq53, baq53, sq53, hq53, kq53, vq53, yq53, qq53, kM, htq53, hbrq53, hsq53⟩ := hpq53
          replace hM := kM
          obtain ⟨⟨-, -, hbb53⟩, -, -⟩ := id htq53
          replace hTp := (hsq53 80 (by omega)).trans hTp
          replace hF : ∀ j : Nat, j ≠ 78 → Ew53 j = E0 j := fun j hj => (hsq53 j (by omega)).trans (hF j hj)
          refine J_aload_n (q := 57) X dX10_numberRead_56 rfl rfl ?_
          refine J_get (q := 60) X dX10_numberRead_57 fX10_69 hM (by omega) rfl rfl ?_
          refine J_if_ne (q := 63) (tgt := 67) X dX10_numberRead_60 (by decide) rfl (by omega) (fun cq60 => ?_) (fun cq60 => ?_)
          · refine J_iload_n (q := 68) X dX10_numberRead_67 rfl rfl ?_
            refine J_iret X R dX10_numberRead_68 ?_
            rw [hE0] at hF
            first
              | exact ⟨_, rfl, _, _, _, _, _, _, _, _, _, hM, by omega, TQ_sw cq60 htq53, hF⟩
              | exact ⟨_, rfl, _, _, _, _, _, _, _, _, _, hM, by omega, htq53, hF⟩
              | exact absurd cq60 (hbrq53 (by omega))
          · refine J_iload_n (q := 64) X dX10_numberRead_63 rfl rfl ?_
            refine J_goto (q := 68) X dX10_numberRead_64 (by decide) ?_
            refine J_iret X R dX10_numberRead_68 ?_
            rw [hE0] at hF
            first
              | exact ⟨_, rfl, _, _, _, _, _, _, _, _, _, hM, by omega, TQ_sw cq60 htq53, hF⟩
              | exact ⟨_, rfl, _, _, _, _, _, _, _, _, _, hM, by omega, htq53, hF⟩
              | exact absurd cq60 (hbrq53 (by omega))
        · refine J_aload_n (q := 43) X dX10_numberRead_42 rfl rfl ?_
          refine J_iconst (q := 44) X dX10_numberRead_43 rfl ?_
          refine J_callV (q := 47) (jrV X mX10_105 dX10_numberRead_44 (c_X10_fails hM (by omega)) hM (by omega) rfl rfl rfl rfl (Nat.le_of_ble_eq_true rfl) (by decide)) rfl (fun Ew44 hpq44 => ?_)
          obtain ⟨kM, hsq44⟩ := hpq44
          replace hM := kM
          have hnb : m2 = 0 := cq4
          subst hnb
          rw [if_pos rfl, if_pos rfl] at hM
          replace hTp := (hsq44 80 (by omega)).trans hTp
          replace hF : ∀ j : Nat, j ≠ 78 → Ew44 j = E0 j := fun j hj => (hsq44 j (by omega)).trans (hF j hj)
          refine J_aload_n (q := 48) X dX10_numberRead_47 rfl rfl ?_
          refine J_get (q := 51) X dX10_numberRead_48 fX10_109 hM (by omega) rfl rfl ?_
          refine J_istore_n (q := 52) X dX10_numberRead_51 (by decide) rfl rfl ?_
          refine J_aload_n (q := 53) X dX10_numberRead_52 rfl rfl ?_
          refine J_callV (q := 56) (jrV X mX10_125 dX10_numberRead_53 (c_X10_takes (r := r) (z0 := z0) (x := if mg = 1 then 3 else 4) (mg := mg) (ti := if mg = 1 then ti else m7) (g := g) (ma := if mg = 1 then iu ma m7 1 else ma) hM hTp htb (by
    first
      | (rw [if_neg (show ¬ m2 = 0 by omega)]; exact TQ_br (by omega) htq)
      | (rw [if_neg (show ¬ (2 : Int) = 0 by decide)]; exact TQ_ne htq (by omega) (by omega))
      | (rw [if_neg (show ¬ (3 : Int) = 0 by decide)]; exact TQ_bad htq (by omega) (by omega) (by unfold fT; rw [if_neg (by decide), if_pos rfl, if_neg (by unfold okW; omega)]) (by omega))
      | (obtain rfl : m2 = 0 := by assumption
         have hgo := TQ_go1 (ba' := m3) (h' := m5) (v' := m7) (y' := m10) htq (by omega) (by omega) (by omega) (by unfold fT; rw [if_neg (by decide), if_pos rfl, if_pos (by unfold okW; omega)])
         have e1 : xT tb m5 m4 2 mg = (if mg = 1 then 3 else 4) := by unfold xT; rw [if_neg (by decide), if_pos rfl]
         have e2 : mkT tb m5 m4 2 mg = mg := by unfold mkT; rw [if_neg (by decide)]
         have e3 : tiT m7 2 mg ti = (if mg = 1 then ti else m7) := by unfold tiT; rw [if_neg (by decide)]; by_cases e : mg = 1; (rw [if_neg (fun z => z.2 e), if_pos e]); (rw [if_pos ⟨rfl, e⟩, if_neg e])
         have e4 : maT m7 2 mg ma = (if mg = 1 then iu ma m7 1 else ma) := by unfold maT; by_cases e : mg = 1; (rw [if_pos ⟨rfl, e⟩, if_pos e]); (rw [if_neg (fun z => e z.2), if_neg e])
         have e5 : lnT 2 m8 = m8 := by unfold lnT; rw [if_neg (by decide)]
         have e6 : tkT 2 m9 = m9 + 1 := by unfold tkT; rw [if_neg (by decide)]
         rw [e1, e2, e3, e4, e5, e6] at hgo
         rw [if_pos (show (0 : Int) = 0 from rfl)]
         exact PD_lo (by omega) hgo))) hM (by omega) rfl rfl rfl rfl (Nat.le_of_ble_eq_true rfl) (by decide)) rfl (fun Ew53 hpq53 => ?_)
          obtain ⟨bq53, baq53, sq53, hq53, kq53, vq53, yq53, qq53, kM, htq53, hbrq53, hsq53⟩ := hpq53
          replace hM := kM
          obtain ⟨⟨-, -, hbb53⟩, -, -⟩ := id htq53
          replace hTp := (hsq53 80 (by omega)).trans hTp
          replace hF : ∀ j : Nat, j ≠ 78 → Ew53 j = E0 j := fun j hj => (hsq53 j (by omega)).trans (hF j hj)
          refine J_aload_n (q := 57) X dX10_numberRead_56 rfl rfl ?_
          refine J_get (q := 60) X dX10_numberRead_57 fX10_69 hM (by omega) rfl rfl ?_
          refine J_if_ne (q := 63) (tgt := 67) X dX10_numberRead_60 (by decide) rfl (by omega) (fun cq60 => ?_) (fun cq60 => ?_)
          · refine J_iload_n (q := 68) X dX10_numberRead_67 rfl rfl ?_
            refine J_iret X R dX10_numberRead_68 ?_
            rw [hE0] at hF
            first
              | exact ⟨_, rfl, _, _, _, _, _, _, _, _, _, hM, by omega, TQ_sw cq60 htq53, hF⟩
              | exact ⟨_, rfl, _, _, _, _, _, _, _, _, _, hM, by omega, htq53, hF⟩
              | exact absurd cq60 (hbrq53 (by omega))
          · refine J_iload_n (q := 64) X dX10_numberRead_63 rfl rfl ?_
            refine J_goto (q := 68) X dX10_numberRead_64 (by decide) ?_
            refine J_iret X R dX10_numberRead_68 ?_
            rw [hE0] at hF
            first
              | exact ⟨_, rfl, _, _, _, _, _, _, _, _, _, hM, by omega, TQ_sw cq60 htq53, hF⟩
              | exact ⟨_, rfl, _, _, _, _, _, _, _, _, _, hM, by omega, htq53, hF⟩
              | exact absurd cq60 (hbrq53 (by omega))
    · refine J_aload_n (q := 16) X dX10_numberRead_15 rfl rfl ?_
      refine J_iconst (q := 17) X dX10_numberRead_16 rfl ?_
      refine J_callV (q := 20) (jrV X mX10_105 dX10_numberRead_17 (c_X10_fails hM (by omega)) hM (by omega) rfl rfl rfl rfl (Nat.le_of_ble_eq_true rfl) (by decide)) rfl (fun Ew17 hpq17 => ?_)
      obtain ⟨kM, hsq17⟩ := hpq17
      replace hM := kM
      have hnb : m2 = 0 := cq4
      subst hnb
      rw [if_pos rfl, if_pos rfl] at hM
      replace hTp := (hsq17 80 (by omega)).trans hTp
      replace hF : ∀ j : Nat, j ≠ 78 → Ew17 j = E0 j := fun j hj => (hsq17 j (by omega)).trans (hF j hj)
      refine J_aload_n (q := 21) X dX10_numberRead_20 rfl rfl ?_
      refine J_get (q := 24) X dX10_numberRead_21 fX10_69 hM (by omega) rfl rfl ?_
      refine J_if_ne (q := 27) (tgt := 47) X dX10_numberRead_24 (by decide) rfl (by omega) (fun cq24 => ?_) (fun cq24 => ?_)
      · refine J_aload_n (q := 48) X dX10_numberRead_47 rfl rfl ?_
        refine J_get (q := 51) X dX10_numberRead_48 fX10_109 hM (by omega) rfl rfl ?_
        refine J_istore_n (q := 52) X dX10_numberRead_51 (by decide) rfl rfl ?_
        refine J_aload_n (q := 53) X dX10_numberRead_52 rfl rfl ?_
        refine J_callV (q := 56) (jrV X mX10_125 dX10_numberRead_53 (c_X10_takes (r := r) (z0 := z0) (x := if mg = 1 then 3 else 4) (mg := mg) (ti := if mg = 1 then ti else m7) (g := g) (ma := if mg = 1 then iu ma m7 1 else ma) hM hTp htb (by
    first
      | (rw [if_neg (show ¬ m2 = 0 by omega)]; exact TQ_br (by omega) htq)
      | (rw [if_neg (show ¬ (2 : Int) = 0 by decide)]; exact TQ_ne htq (by omega) (by omega))
      | (rw [if_neg (show ¬ (3 : Int) = 0 by decide)]; exact TQ_bad htq (by omega) (by omega) (by unfold fT; rw [if_neg (by decide), if_pos rfl, if_neg (by unfold okW; omega)]) (by omega))
      | (obtain rfl : m2 = 0 := by assumption
         have hgo := TQ_go1 (ba' := m3) (h' := m5) (v' := m7) (y' := m10) htq (by omega) (by omega) (by omega) (by unfold fT; rw [if_neg (by decide), if_pos rfl, if_pos (by unfold okW; omega)])
         have e1 : xT tb m5 m4 2 mg = (if mg = 1 then 3 else 4) := by unfold xT; rw [if_neg (by decide), if_pos rfl]
         have e2 : mkT tb m5 m4 2 mg = mg := by unfold mkT; rw [if_neg (by decide)]
         have e3 : tiT m7 2 mg ti = (if mg = 1 then ti else m7) := by unfold tiT; rw [if_neg (by decide)]; by_cases e : mg = 1; (rw [if_neg (fun z => z.2 e), if_pos e]); (rw [if_pos ⟨rfl, e⟩, if_neg e])
         have e4 : maT m7 2 mg ma = (if mg = 1 then iu ma m7 1 else ma) := by unfold maT; by_cases e : mg = 1; (rw [if_pos ⟨rfl, e⟩, if_pos e]); (rw [if_neg (fun z => e z.2), if_neg e])
         have e5 : lnT 2 m8 = m8 := by unfold lnT; rw [if_neg (by decide)]
         have e6 : tkT 2 m9 = m9 + 1 := by unfold tkT; rw [if_neg (by decide)]
         rw [e1, e2, e3, e4, e5, e6] at hgo
         rw [if_pos (show (0 : Int) = 0 from rfl)]
         exact PD_lo (by omega) hgo))) hM (by omega) rfl rfl rfl rfl (Nat.le_of_ble_eq_true rfl) (by decide)) rfl (fun Ew53 hpq53 => ?_)
        obtain ⟨bq53, baq53, sq53, hq53, kq53, vq53, yq53, qq53, kM, htq53, hbrq53, hsq53⟩ := hpq53
        replace hM := kM
        obtain ⟨⟨-, -, hbb53⟩, -, -⟩ := id htq53
        replace hTp := (hsq53 80 (by omega)).trans hTp
        replace hF : ∀ j : Nat, j ≠ 78 → Ew53 j = E0 j := fun j hj => (hsq53 j (by omega)).trans (hF j hj)
        refine J_aload_n (q := 57) X dX10_numberRead_56 rfl rfl ?_
        refine J_get (q := 60) X dX10_numberRead_57 fX10_69 hM (by omega) rfl rfl ?_
        refine J_if_ne (q := 63) (tgt := 67) X dX10_numberRead_60 (by decide) rfl (by omega) (fun cq60 => ?_) (fun cq60 => ?_)
        · refine J_iload_n (q := 68) X dX10_numberRead_67 rfl rfl ?_
          refine J_iret X R dX10_numberRead_68 ?_
          rw [hE0] at hF
          first
            | exact ⟨_, rfl, _, _, _, _, _, _, _, _, _, hM, by omega, TQ_sw cq60 htq53, hF⟩
            | exact ⟨_, rfl, _, _, _, _, _, _, _, _, _, hM, by omega, htq53, hF⟩
            | exact absurd cq60 (hbrq53 (by omega))
        · refine J_iload_n (q := 64) X dX10_numberRead_63 rfl rfl ?_
          refine J_goto (q := 68) X dX10_numberRead_64 (by decide) ?_
          refine J_iret X R dX10_numberRead_68 ?_
          rw [hE0] at hF
          first
            | exact ⟨_, rfl, _, _, _, _, _, _, _, _, _, hM, by omega, TQ_sw cq60 htq53, hF⟩
            | exact ⟨_, rfl, _, _, _, _, _, _, _, _, _, hM, by omega, htq53, hF⟩
            | exact absurd cq60 (hbrq53 (by omega))
      · exfalso; omega
