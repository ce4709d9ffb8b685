/-! the texts: length and signs of the three names -/
def jchr : List (List Int) := [[109, 97, 114, 107], [114, 111, 119], [114, 101, 112]]
abbrev jch (w : Nat) (k : Int) : Int := (jchr.getD w []).getD k.toNat 0
abbrev jln (w : Nat) : Int := (jlen.getD w 0 : Nat)
theorem jchr_ok : ∀ w, w < 3 → ∀ k, k < jlen.getD w 0 → (((jbyt.getD w []).getD k 0 &&& jI 255).toUInt32 % 65536).toInt32 = jI ((jchr.getD w []).getD k 0) ∧ narrow .char (.int (jI ((jchr.getD w []).getD k 0))) = .int (jI ((jchr.getD w []).getD k 0)) := by decide +kernel
theorem jln_bd : ∀ w, w < 3 → (3 ≤ jln w ∧ jln w ≤ 4) := by decide +kernel
section JStr
variable {l : Launch} {Γ : JG} {Ω : JO} {nL : Nat} {ad : Nat → Nat} {N k n : Nat} {E : Nat → va_E} {pc q : Nat} {L : List (Option Value)} {st : List Value} {own : String} {cc : ByteArray} {fr rc rs lo : Nat} {w : Nat}
theorem J_sval (X : JX Γ Ω RJ0 cc nL fr rc rs lo) (hw0 : w < 3) (hd : decode cc pc = .ok (.getfield 9, 3)) (hq : pc + 3 = q) (kk : J l Γ Ω nL ad N k n E q L (.ref (Γ.2.2.2.2.2 w) :: st)) : J l Γ Ω nL ad N k n E pc L (.ref (Γ.2.2.2.2.1 w) :: st) := by
  subst hq
  intro H locs ls hl hw hS
  obtain ⟨hx, hb, hml, hown, hts, henv, hR⟩ := X
  exact vk_getf hx hb (henv.2.2.2.2.1.1.1 w hw0).2.2.1 hS hown (hts _ sJ0_9) (fun _ z => z) hd (kk H locs ls hl hw hS)
theorem J_scod (X : JX Γ Ω RJ0 cc nL fr rc rs lo) (hw0 : w < 3) (hd : decode cc pc = .ok (.getfield 15, 3)) (hq : pc + 3 = q) (kk : J l Γ Ω nL ad N k n E q L (.int (jI 0) :: st)) : J l Γ Ω nL ad N k n E pc L (.ref (Γ.2.2.2.2.1 w) :: st) := by
  subst hq
  intro H locs ls hl hw hS
  obtain ⟨hx, hb, hml, hown, hts, henv, hR⟩ := X
  exact vk_getf hx hb (henv.2.2.2.2.1.1.1 w hw0).2.1 hS hown (hts _ sJ0_15) (fun _ z => z) hd (kk H locs ls hl hw hS)
theorem J_compact (X : JX Γ Ω RJ0 cc nL fr rc rs lo) (hd : decode cc pc = .ok (.getstatic 38, 3)) (hq : pc + 3 = q) (kk : J l Γ Ω nL ad N k n E q L (.int (jI 1) :: st)) : J l Γ Ω nL ad N k n E pc L st := by
  subst hq
  intro H locs ls hl hw hS
  obtain ⟨hx, hb, hml, hown, hts, henv, hR⟩ := X
  exact va_gets hx hb henv.2.2.2.1.1 hS hown (hts _ sJ0_38) (fun _ z => z) hd (kk H locs ls hl hw hS)
theorem J_sioobe (X : JX Γ Ω RJ0 cc nL fr rc rs lo) (hd : decode cc pc = .ok (.getstatic 1053, 3)) (hq : pc + 3 = q) (kk : ∀ v : Value, (v = .null ∨ ∃ t, v = .ref t) → J l Γ Ω nL ad N k n E q L (v :: st)) : J l Γ Ω nL ad N k n E pc L st := by
  subst hq
  intro H locs ls hl hw hS
  obtain ⟨hx, hb, hml, hown, hts, henv, hR⟩ := X
  rcases henv.2.2.2.1.2 with hZ | ⟨t, hZ⟩
  · exact va_gets hx hb hZ hS hown (hts _ sJ0_1053) (fun _ z => z) hd (kk _ (Or.inl rfl) H locs ls hl hw hS)
  · exact va_gets hx hb hZ hS hown (hts _ sJ0_1053) (fun _ z => z) hd (kk _ (Or.inr ⟨t, rfl⟩) H locs ls hl hw hS)
theorem J_slen (X : JX Γ Ω own cc nL fr rc rs lo) (hw0 : w < 3) (hd : decode cc pc = .ok (.arraylength, 1)) (hq : pc + 1 = q) (kk : J l Γ Ω nL ad N k n E q L (.int (jI (jln w)) :: st)) : J l Γ Ω nL ad N k n E pc L (.ref (Γ.2.2.2.2.2 w) :: st) := by
  subst hq
  intro H locs ls hl hw hS
  obtain ⟨hx, hb, hml, hown, hts, henv, hR⟩ := X
  exact va_tlen hx hb (henv.2.2.2.2.1.1.1 w hw0).2.2.2 hS (jI_nat _) hd (kk H locs ls hl hw hS)
theorem J_sbyte (X : JX Γ Ω own cc nL fr rc rs lo) (hw0 : w < 3) {z : Int} (hz : 0 ≤ z ∧ z < jln w) (hd : decode cc pc = .ok (.baload, 1)) (hq : pc + 1 = q) (kk : J l Γ Ω nL ad N k n E q L (.int ((jbyt.getD w []).getD z.toNat 0) :: st)) : J l Γ Ω nL ad N k n E pc L (.int (jI z) :: .ref (Γ.2.2.2.2.2 w) :: st) := by
  subst hq
  intro H locs ls hl hw hS
  obtain ⟨hx, hb, hml, hown, hts, henv, hR⟩ := X
  have := jln_bd w hw0
  refine va_tb hx hb (henv.2.2.2.2.1.1.1 w hw0).2.2.2 hS (jI_in hz (by have e : jln w = ((jlen.getD w 0 : Nat) : Int) := rfl; omega)) (v := .int ((jbyt.getD w []).getD z.toNat 0)) ?_ hd (kk H locs ls hl hw hS)
  rw [jI_clamp (by omega)]
theorem J_iandX (X : JX Γ Ω own cc nL fr rc rs lo) {x y : Int32} (hd : decode cc pc = .ok (.iand, 1)) (hq : pc + 1 = q) (kk : J l Γ Ω nL ad N k n E q L (.int (x &&& y) :: st)) : J l Γ Ω nL ad N k n E pc L (.int y :: .int x :: st) := by
  subst hq
  exact fun H locs ls hl hw hS => lv_iand X.1 X.2.1 hd (kk H locs ls hl hw hS)
/-- a name of the text reader's -/
theorem J_ldcS (X : JX Γ Ω RX7 cc nL fr rc rs lo) {idx : Nat} (hd : decode cc pc = .ok (.ldc idx, 2)) (hi : (idx = 93 ∧ w = 0) ∨ (idx = 103 ∧ w = 1) ∨ (idx = 109 ∧ w = 2)) (hq : pc + 2 = q) (kk : J l Γ Ω nL ad N k n E q L (.ref (Γ.2.2.2.2.1 w) :: st)) : J l Γ Ω nL ad N k n E pc L st := by
  subst hq
  intro H locs ls hl hw hS
  obtain ⟨hx, hb, hml, hown, hts, henv, hR⟩ := X
  obtain ⟨-, r1, r2, r3⟩ := henv.2.2.2.2.1
  rcases hi with ⟨rfl, rfl⟩ | ⟨rfl, rfl⟩ | ⟨rfl, rfl⟩
  · exact va_ldcS hx hb hown r1 hd (kk H locs ls hl hw hS)
  · exact va_ldcS hx hb hown r2 hd (kk H locs ls hl hw hS)
  · exact va_ldcS hx hb hown r3 hd (kk H locs ls hl hw hS)
variable {y : MethodName} {cy : ByteArray} {nLy fry loy mc ms idx na : Nat} {ret : Option FieldType} {post : Option Value → (Nat → va_E) → Prop} {rest : List Value}
theorem jrVs (X : JX Γ Ω own cc nL fr rc rs lo) (hw0 : w < 3) {As : List Value} (hok : okV own idx y cy nLy ret na) (hd : decode cc pc = .ok (.invokevirtual idx, 3)) (hM : JM l Γ y cy nLy ret fry loy mc ms ad N E (.ref (Γ.2.2.2.2.1 w) :: As) post) (hC : y.cls = RJ0) (hst : st = As.reverse ++ .ref (Γ.2.2.2.2.1 w) :: rest) (hna : As.length = na) (hsum : (rest.map fun v => v.category).sum ≤ 8) (hR : fry + 1 ≤ fr ∧ 8 + (nLy + 11) + loy ≤ lo ∧ k + mc ≤ rc ∧ n + ms ≤ rs) : JRun l Γ Ω nL ad N k n E pc L st rest mc ms post := by
  intro H locs ls hl hw hS
  obtain ⟨hx, hb, hml, hown, hts, henv, hRm⟩ := X
  obtain ⟨hok, h1, h2, h3⟩ := hok
  have hp := jpre (av := .ref (Γ.2.2.2.2.1 w) :: As) henv hw hS
  refine ⟨_, va_runV (As := As) (rest := rest) (C := y.cls) ⟨hx, hb, hml, hown, hts⟩ hM ⟨jcallB hts hok (hts _ h1) (by rw [hRm]; exact ⟨hR.1, hR.2.1⟩), hts _ h2, hts _ h3⟩ ⟨hp.1, ?_, hp.2⟩ rfl hna hl.1 hst (lv_room hsum) hd (by rw [hRm]; exact hR.2.2)⟩
  rw [hC]
  exact vk_recv henv.2.2.2.2.1.1 hw0 hS
end JStr
set_option maxRecDepth 100000 in
set_option maxHeartbeats 4000000 in
theorem c_J3_checkIndex_8e157 {l : Launch} {Γ : JG} {ad : Nat → Nat} {E : Nat → va_E} {i m : Int} {v : Value} (hv : v = .null ∨ ∃ t, v = .ref t) (hi : 0 ≤ i ∧ i < m ∧ m < 2147483648) : JM l Γ yJ3_checkIndex_8e157 cJ3_checkIndex_8e157 3 (some .int) 0 0 0 0 ad 95 E [.int (jI i), .int (jI m), v] (pP i E) := by
  rcases hv with rfl | ⟨t, rfl⟩
  · refine JM_intro (own := RJ3) [some (.int (jI i)), some (.int (jI m)), some .null] rfl rfl rfl (Nat.le_of_ble_eq_true rfl) ?_
    intro Ω X R hin
    refine J_iload_n (q := 1) X dJ3_checkIndex_8e157_0 rfl rfl ?_
    refine J_if_lt (q := 4) (tgt := 9) X dJ3_checkIndex_8e157_1 (by decide) rfl (by omega) (fun cq1 => absurd cq1 (by omega)) (fun cq1 => ?_)
    refine J_iload_n (q := 5) X dJ3_checkIndex_8e157_4 rfl rfl ?_
    refine J_iload_n (q := 6) X dJ3_checkIndex_8e157_5 rfl rfl ?_
    refine J_icmp_lt (q := 9) (tgt := 16) X dJ3_checkIndex_8e157_6 (by decide) rfl (by omega) (by omega) (fun cq6 => ?_) (fun cq6 => absurd hi.2.1 cq6)
    refine J_iload_n (q := 17) X dJ3_checkIndex_8e157_16 rfl rfl ?_
    exact J_iret X R dJ3_checkIndex_8e157_17 ⟨rfl, rfl⟩
  · refine JM_intro (own := RJ3) [some (.int (jI i)), some (.int (jI m)), some (.ref t)] rfl rfl rfl (Nat.le_of_ble_eq_true rfl) ?_
    intro Ω X R hin
    refine J_iload_n (q := 1) X dJ3_checkIndex_8e157_0 rfl rfl ?_
    refine J_if_lt (q := 4) (tgt := 9) X dJ3_checkIndex_8e157_1 (by decide) rfl (by omega) (fun cq1 => absurd cq1 (by omega)) (fun cq1 => ?_)
    refine J_iload_n (q := 5) X dJ3_checkIndex_8e157_4 rfl rfl ?_
    refine J_iload_n (q := 6) X dJ3_checkIndex_8e157_5 rfl rfl ?_
    refine J_icmp_lt (q := 9) (tgt := 16) X dJ3_checkIndex_8e157_6 (by decide) rfl (by omega) (by omega) (fun cq6 => ?_) (fun cq6 => absurd hi.2.1 cq6)
    refine J_iload_n (q := 17) X dJ3_checkIndex_8e157_16 rfl rfl ?_
    exact J_iret X R dJ3_checkIndex_8e157_17 ⟨rfl, rfl⟩
set_option maxRecDepth 100000 in
set_option maxHeartbeats 4000000 in
theorem c_J0_checkIndex_df160 {l : Launch} {Γ : JG} {ad : Nat → Nat} {E : Nat → va_E} {i m : Int} (hi : 0 ≤ i ∧ i < m ∧ m < 2147483648) : JM l Γ yJ0_checkIndex_df160 cJ0_checkIndex_df160 2 none 1 22 0 0 ad 95 E [.int (jI i), .int (jI m)] (pV (fun E' => E' = E)) := by
  refine JM_intro (own := RJ0) [some (.int (jI i)), some (.int (jI m))] rfl rfl rfl (Nat.le_of_ble_eq_true rfl) ?_
  intro Ω X R hin
  refine J_iload_n (q := 1) X dJ0_checkIndex_df160_0 rfl rfl ?_
  refine J_iload_n (q := 2) X dJ0_checkIndex_df160_1 rfl rfl ?_
  refine J_sioobe (q := 5) X dJ0_checkIndex_df160_2 rfl (fun v hv => ?_)
  refine J_callP (q := 8) (jrS X mJ0_1059 dJ0_checkIndex_df160_5 (c_J3_checkIndex_8e157 hv hi) rfl rfl (Nat.le_of_ble_eq_true rfl) (by decide)) rfl ?_
  refine J_pop (q := 9) X dJ0_checkIndex_df160_8 rfl rfl ?_
  exact J_vret X R dJ0_checkIndex_df160_9 ⟨rfl, rfl⟩
set_option maxRecDepth 100000 in
set_option maxHeartbeats 4000000 in
theorem c_J1_charAt_3b067 {l : Launch} {Γ : JG} {ad : Nat → Nat} {E : Nat → va_E} {w : Nat} {i : Int} (hw : w < 3) (hi : 0 ≤ i ∧ i < jln w) : JM l Γ yJ1_charAt_3b067 cJ1_charAt_3b067 2 (some .char) 2 43 0 0 ad 95 E [.ref (Γ.2.2.2.2.2 w), .int (jI i)] (pP (jch w i) E) := by
  have hb := jln_bd w hw
  obtain ⟨h1, h2⟩ := jchr_ok w hw i.toNat (by have : jln w = ((jlen.getD w 0 : Nat) : Int) := rfl; omega)
  refine JM_intro (own := RJ1) [some (.ref (Γ.2.2.2.2.2 w)), some (.int (jI i))] rfl rfl rfl (Nat.le_of_ble_eq_true rfl) ?_
  intro Ω X R hin
  refine J_iload_n (q := 1) X dJ1_charAt_3b067_0 rfl rfl ?_
  refine J_aload_n (q := 2) X dJ1_charAt_3b067_1 rfl rfl ?_
  refine J_slen (q := 3) X hw dJ1_charAt_3b067_2 rfl ?_
  refine J_callV (q := 6) (jrS X mJ1_9 dJ1_charAt_3b067_3 (c_J0_checkIndex_df160 (by omega)) rfl rfl (Nat.le_of_ble_eq_true rfl) (by decide)) rfl (fun Ew3 hpq3 => ?_)
  obtain rfl := hpq3
  refine J_aload_n (q := 7) X dJ1_charAt_3b067_6 rfl rfl ?_
  refine J_iload_n (q := 8) X dJ1_charAt_3b067_7 rfl rfl ?_
  refine J_sbyte (q := 9) X hw hi dJ1_charAt_3b067_8 rfl ?_
  refine J_sipush (q := 12) X dJ1_charAt_3b067_9 rfl (by decide) ?_
  refine J_iandX (q := 13) X dJ1_charAt_3b067_12 rfl ?_
  refine J_i2c (q := 14) X dJ1_charAt_3b067_13 rfl h1 ?_
  exact J_zret X R dJ1_charAt_3b067_14 h2 ⟨rfl, rfl⟩
set_option maxRecDepth 100000 in
set_option maxHeartbeats 4000000 in
theorem c_J0_coder_7d493 {l : Launch} {Γ : JG} {ad : Nat → Nat} {E : Nat → va_E} {w : Nat} (hw : w < 3) : JM l Γ yJ0_coder_7d493 cJ0_coder_7d493 1 (some .byte) 0 0 0 0 ad 95 E [.ref (Γ.2.2.2.2.1 w)] (pP 0 E) := by
  refine JM_intro (own := RJ0) [some (.ref (Γ.2.2.2.2.1 w))] rfl rfl rfl (Nat.le_of_ble_eq_true rfl) ?_
  intro Ω X R hin
  refine J_compact (q := 3) X dJ0_coder_7d493_0 rfl ?_
  refine J_if_eq (q := 6) (tgt := 13) X dJ0_coder_7d493_3 (by decide) rfl (by omega) (fun cq3 => absurd cq3 (by decide)) (fun cq3 => ?_)
  refine J_aload_n (q := 7) X dJ0_coder_7d493_6 rfl rfl ?_
  refine J_scod (q := 10) X hw dJ0_coder_7d493_7 rfl ?_
  refine J_goto (q := 14) X dJ0_coder_7d493_10 (by decide) ?_
  exact J_zret X R dJ0_coder_7d493_14 rfl ⟨rfl, rfl⟩
set_option maxRecDepth 100000 in
set_option maxHeartbeats 4000000 in
theorem c_J0_isLatin1_aae02 {l : Launch} {Γ : JG} {ad : Nat → Nat} {E : Nat → va_E} {w : Nat} (hw : w < 3) : JM l Γ yJ0_isLatin1_aae02 cJ0_isLatin1_aae02 1 (some .boolean) 0 0 0 0 ad 95 E [.ref (Γ.2.2.2.2.1 w)] (pP 1 E) := by
  refine JM_intro (own := RJ0) [some (.ref (Γ.2.2.2.2.1 w))] rfl rfl rfl (Nat.le_of_ble_eq_true rfl) ?_
  intro Ω X R hin
  refine J_compact (q := 3) X dJ0_isLatin1_aae02_0 rfl ?_
  refine J_if_eq (q := 6) (tgt := 17) X dJ0_isLatin1_aae02_3 (by decide) rfl (by omega) (fun cq3 => absurd cq3 (by decide)) (fun cq3 => ?_)
  refine J_aload_n (q := 7) X dJ0_isLatin1_aae02_6 rfl rfl ?_
  refine J_scod (q := 10) X hw dJ0_isLatin1_aae02_7 rfl ?_
  refine J_if_ne (q := 13) (tgt := 17) X dJ0_isLatin1_aae02_10 (by decide) rfl (by omega) (fun cq10 => absurd rfl cq10) (fun cq10 => ?_)
  refine J_iconst (q := 14) X dJ0_isLatin1_aae02_13 rfl ?_
  refine J_goto (q := 18) X dJ0_isLatin1_aae02_14 (by decide) ?_
  exact J_zret X R dJ0_isLatin1_aae02_18 rfl ⟨rfl, rfl⟩
set_option maxRecDepth 100000 in
set_option maxHeartbeats 4000000 in
theorem c_J0_length_8abf5 {l : Launch} {Γ : JG} {ad : Nat → Nat} {E : Nat → va_E} {w : Nat} (hw : w < 3) : JM l Γ yJ0_length_8abf5 cJ0_length_8abf5 1 (some .int) 1 20 0 0 ad 95 E [.ref (Γ.2.2.2.2.1 w)] (pP (jln w) E) := by
  refine JM_intro (own := RJ0) [some (.ref (Γ.2.2.2.2.1 w))] rfl rfl rfl (Nat.le_of_ble_eq_true rfl) ?_
  intro Ω X R hin
  refine J_aload_n (q := 1) X dJ0_length_8abf5_0 rfl rfl ?_
  refine J_sval (q := 4) X hw dJ0_length_8abf5_1 rfl ?_
  refine J_slen (q := 5) X hw dJ0_length_8abf5_4 rfl ?_
  refine J_aload_n (q := 6) X dJ0_length_8abf5_5 rfl rfl ?_
  refine J_callP (q := 9) (jrVs X hw mJ0_335 dJ0_length_8abf5_6 (c_J0_coder_7d493 hw) rfl rfl rfl (Nat.le_of_ble_eq_true rfl) (by decide)) rfl ?_
  refine J_ishr (q := 10) X dJ0_length_8abf5_9 rfl (sb_shr0 _) ?_
  exact J_iret X R dJ0_length_8abf5_10 ⟨rfl, rfl⟩
set_option maxRecDepth 100000 in
set_option maxHeartbeats 4000000 in
theorem c_J0_charAt_5068e {l : Launch} {Γ : JG} {ad : Nat → Nat} {E : Nat → va_E} {w : Nat} {i : Int} (hw : w < 3) (hi : 0 ≤ i ∧ i < jln w) : JM l Γ yJ0_charAt_5068e cJ0_charAt_5068e 2 (some .char) 4 85 0 0 ad 95 E [.ref (Γ.2.2.2.2.1 w), .int (jI i)] (pP (jch w i) E) := by
  obtain ⟨h1, h2⟩ := jchr_ok w hw i.toNat (by have : jln w = ((jlen.getD w 0 : Nat) : Int) := rfl; omega)
  refine JM_intro (own := RJ0) [some (.ref (Γ.2.2.2.2.1 w)), some (.int (jI i))] rfl rfl rfl (Nat.le_of_ble_eq_true rfl) ?_
  intro Ω X R hin
  refine J_aload_n (q := 1) X dJ0_charAt_5068e_0 rfl rfl ?_
  refine J_callP (q := 4) (jrVs X hw mJ0_492 dJ0_charAt_5068e_1 (c_J0_isLatin1_aae02 hw) rfl rfl rfl (Nat.le_of_ble_eq_true rfl) (by decide)) rfl ?_
  refine J_if_eq (q := 7) (tgt := 16) X dJ0_charAt_5068e_4 (by decide) rfl (by omega) (fun cq4 => absurd cq4 (by decide)) (fun cq4 => ?_)
  refine J_aload_n (q := 8) X dJ0_charAt_5068e_7 rfl rfl ?_
  refine J_sval (q := 11) X hw dJ0_charAt_5068e_8 rfl ?_
  refine J_iload_n (q := 12) X dJ0_charAt_5068e_11 rfl rfl ?_
  refine J_callP (q := 15) (jrS X mJ0_495 dJ0_charAt_5068e_12 (c_J1_charAt_3b067 hw hi) rfl rfl (Nat.le_of_ble_eq_true rfl) (by decide)) rfl ?_
  exact J_zret X R dJ0_charAt_5068e_15 h2 ⟨rfl, rfl⟩
