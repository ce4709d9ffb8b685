/-! the start: all is empty -/
abbrev KS0 : KS := ((0, fun _ => 0), (0, 0, 0, 0), (0, fun _ => 0), (0, 0, 0, fun _ => 0, fun _ _ => 0), (fun _ => 0, fun _ => 0, fun _ _ => 0), (fun _ => 0, fun _ => 0, fun _ => 0, fun _ _ => 0), 0)
theorem VR0 : VR (fun _ => 0) 0 := ⟨by decide, fun j a b => by omega⟩
theorem KV_0 : KV KS0 := by
  refine ⟨⟨VR0, ⟨by decide, by decide, by decide, by decide, by decide⟩, fun _ _ => VR0, fun _ _ => VR0, fun _ _ _ => Or.inl rfl, ⟨by decide, fun j a b => ?_⟩, by decide, fun i hi => ⟨Or.inl rfl, (by decide : (0 : Int) ≤ 0 ∧ (0 : Int) ≤ 2), (by decide : (0 : Int) ≤ 0 ∧ (0 : Int) ≤ 40), fun j a b => ?_⟩⟩, rfl, fun j a b => rfl⟩
  · have b' : j < (0 : Int) := b
    omega
  · show (-2147483648 : Int) ≤ 0 ∧ (0 : Int) < 2147483648
    decide
theorem SV_0 : SV (fun _ => 0) 0 (fun _ => 0) (fun _ => 0) (fun _ => 0) (fun _ => 0) (fun _ => 0) (fun _ => 0) := by
  refine ⟨fun j a b => by omega, fun j a b => by omega, fun j a b => ?_, fun j a b => ?_, fun j a b => by omega, fun j a b => by omega⟩
  · obtain rfl : j = 0 := by omega
    rfl
  · obtain rfl : j = 0 := by omega
    rfl
theorem MR_0 {g rs un re ln lg ce : Int → Int} (hg : ∀ j, g j = 0) (hr : rs 0 = -4 ∧ rs 1 = -4 ∧ rs 2 = -4) (hl : ∀ k, 0 ≤ k → k < 4 → ln k = -4) : MR KS0 g rs un re ln lg ce := by
  refine ⟨⟨hg 60, fun j a b => hg j⟩, fun k a b => ⟨hg _, fun j c d => hg _⟩, hr, fun t a b => ?_, fun t a b => ?_, fun k a b => ⟨fun _ => hl k a b, fun z => absurd rfl z⟩⟩
  · have b' : t < (0 : Int) := b
    omega
  · have b' : t < (0 : Int) := b
    omega
set_option maxRecDepth 100000 in
set_option maxHeartbeats 8000000 in
theorem c_X9_init {l : Launch} {Γ : JG} {ad : Nat → Nat} {E : Nat → va_E} (h0 : E 0 = .inr (8, [.null, .null, .null, .null, .null, .null, .null, .null, .int (jI 0)])) : JMA l Γ yX9_init cX9_init 2 none 4 80 77 2430 ad 1 E [.ref (ad 0)] (pV (fun E' => KI Γ ad E' KS0)) := by
  refine JMA_intro (own := RX9) [some (.ref (ad 0)), none] rfl rfl rfl (Nat.le_of_ble_eq_true rfl) ?_
  intro Ω X R hin had
  obtain ⟨E0, hE0⟩ : ∃ E0 : Nat → va_E, E0 = E := ⟨_, rfl⟩
  have hF : ∀ j : Nat, j < 0 → E j = E0 j := fun _ _ => by rw [hE0]
  refine J_aload_n (q := 1) X dX9_init_0 rfl rfl ?_
  refine J_objInit (q := 4) X dX9_init_1 mX9_1 wObj1 wObj2 (by decide) (by decide) rfl ?_
  refine J_aload_n (q := 5) X dX9_init_4 rfl rfl ?_
  refine J_new (q := 8) X tyX7 [.null, .null, .null, .null, .null, .int (jI 0), .int (jI 0), .int (jI 0)] dX9_init_5 ⟨nX9_7, iRX7.1, iRX7.2⟩ clRX7 tyX7_ok (by decide +kernel) (by decide) (by decide) had rfl rfl (fun Ea4 hk4 hs4 => ?_)
  replace h0 : Ea4 0 = _ := (hs4 0 (by decide)).trans h0
  have h1 : Ea4 1 = .inr (6, [.null, .null, .null, .null, .null, .int (jI 0), .int (jI 0), .int (jI 0)]) := hk4
  replace hF : ∀ j : Nat, j < 0 → Ea4 j = E0 j := fun j hj => (hs4 j (by omega)).trans (hF j hj)
  show J l Γ Ω 2 ad 2 1 8 Ea4 8 [some (.ref (ad 0)), none] [.ref (ad 1), .ref (ad 0)]
  refine J_dup (q := 9) X dX9_init_8 rfl rfl ?_
  refine jrI (q := 12) X mX9_9 dX9_init_9 (c_X7_init h1) had rfl rfl rfl (Nat.le_of_ble_eq_true rfl) ⟨by decide, by decide, by decide, by decide⟩ rfl (fun rv Ea6 hp => ?_)
  obtain ⟨rfl, k1, k2, k3, k4, k5, k6, k7, k8, hs6⟩ := hp
  replace h0 : Ea6 0 = _ := (hs6 0 (by decide)).trans h0
  replace h1 := k1
  have h2 := k2
  have h3 := k3
  have h4 := k4
  have h5 := k5
  have h6 := k6
  have h7 := k7
  have h8 := k8
  replace hF : ∀ j : Nat, j < 0 → Ea6 j = E0 j := fun j hj => (hs6 j (by omega)).trans (hF j hj)
  show J l Γ Ω 2 ad 9 8 303 Ea6 12 [some (.ref (ad 0)), none] [.ref (ad 1), .ref (ad 0)]
  refine J_putF (q := 15) (ty := .object "FoldKeeper$TextReader") X dX9_init_12 gX9_10 rfl (hin rfl) rfl (by decide +kernel) rfl rfl h0 (by decide) (Nat.le_of_ble_eq_true rfl) rfl (fun Ea7 hk7 hs7 => ?_)
  replace h1 : Ea7 1 = _ := (hs7 1 (by decide)).trans h1
  replace h2 : Ea7 2 = _ := (hs7 2 (by decide)).trans h2
  replace h3 : Ea7 3 = _ := (hs7 3 (by decide)).trans h3
  replace h4 : Ea7 4 = _ := (hs7 4 (by decide)).trans h4
  replace h5 : Ea7 5 = _ := (hs7 5 (by decide)).trans h5
  replace h6 : Ea7 6 = _ := (hs7 6 (by decide)).trans h6
  replace h7 : Ea7 7 = _ := (hs7 7 (by decide)).trans h7
  replace h8 : Ea7 8 = _ := (hs7 8 (by decide)).trans h8
  replace h0 : Ea7 0 = .inr (8, [.ref (ad 1), .null, .null, .null, .null, .null, .null, .null, .int (jI 0)]) := hk7
  replace hF : ∀ j : Nat, j < 0 → Ea7 j = E0 j := fun j hj => (hs7 j (by omega)).trans (hF j hj)
  refine J_aload_n (q := 16) X dX9_init_15 rfl rfl ?_
  refine J_aload_n (q := 17) X dX9_init_16 rfl rfl ?_
  refine J_get (q := 20) X dX9_init_17 fX9_10 h0 (by decide) rfl rfl ?_
  refine J_get (q := 23) X dX9_init_20 fX9_16 h1 (by decide) rfl rfl ?_
  refine J_putF (q := 26) (ty := .object "FoldKeeper$Tape") X dX9_init_23 gX9_20 rfl (hin rfl) rfl (by decide +kernel) rfl rfl h0 (by decide) (Nat.le_of_ble_eq_true rfl) rfl (fun Ea12 hk12 hs12 => ?_)
  replace h1 : Ea12 1 = _ := (hs12 1 (by decide)).trans h1
  replace h2 : Ea12 2 = _ := (hs12 2 (by decide)).trans h2
  replace h3 : Ea12 3 = _ := (hs12 3 (by decide)).trans h3
  replace h4 : Ea12 4 = _ := (hs12 4 (by decide)).trans h4
  replace h5 : Ea12 5 = _ := (hs12 5 (by decide)).trans h5
  replace h6 : Ea12 6 = _ := (hs12 6 (by decide)).trans h6
  replace h7 : Ea12 7 = _ := (hs12 7 (by decide)).trans h7
  replace h8 : Ea12 8 = _ := (hs12 8 (by decide)).trans h8
  replace h0 : Ea12 0 = .inr (8, [.ref (ad 1), .ref (ad 3), .null, .null, .null, .null, .null, .null, .int (jI 0)]) := hk12
  replace hF : ∀ j : Nat, j < 0 → Ea12 j = E0 j := fun j hj => (hs12 j (by omega)).trans (hF j hj)
  refine J_aload_n (q := 27) X dX9_init_26 rfl rfl ?_
  refine J_new (q := 30) X tyX1 [.null, .null, .null, .null, .null, .null, .null, .null] dX9_init_27 ⟨nX9_21, iRX1.1, iRX1.2⟩ clRX1 tyX1_ok (by decide +kernel) (by decide) (by decide) had rfl rfl (fun Ea14 hk14 hs14 => ?_)
  replace h0 : Ea14 0 = _ := (hs14 0 (by decide)).trans h0
  replace h1 : Ea14 1 = _ := (hs14 1 (by decide)).trans h1
  replace h2 : Ea14 2 = _ := (hs14 2 (by decide)).trans h2
  replace h3 : Ea14 3 = _ := (hs14 3 (by decide)).trans h3
  replace h4 : Ea14 4 = _ := (hs14 4 (by decide)).trans h4
  replace h5 : Ea14 5 = _ := (hs14 5 (by decide)).trans h5
  replace h6 : Ea14 6 = _ := (hs14 6 (by decide)).trans h6
  replace h7 : Ea14 7 = _ := (hs14 7 (by decide)).trans h7
  replace h8 : Ea14 8 = _ := (hs14 8 (by decide)).trans h8
  have h9 : Ea14 9 = .inr (1, [.null, .null, .null, .null, .null, .null, .null, .null]) := hk14
  replace hF : ∀ j : Nat, j < 0 → Ea14 j = E0 j := fun j hj => (hs14 j (by omega)).trans (hF j hj)
  show J l Γ Ω 2 ad 10 9 311 Ea14 30 [some (.ref (ad 0)), none] [.ref (ad 9), .ref (ad 0)]
  refine J_dup (q := 31) X dX9_init_30 rfl rfl ?_
  refine jrI (q := 34) X mX9_23 dX9_init_31 (c_X1_init h9) had rfl rfl rfl (Nat.le_of_ble_eq_true rfl) ⟨by decide, by decide, by decide, by decide⟩ rfl (fun rv Ea16 hp => ?_)
  obtain ⟨rfl, k9, k10, k11, k12, k13, k14, k15, k16, k17, k18, hs16⟩ := hp
  replace h0 : Ea16 0 = _ := (hs16 0 (by decide)).trans h0
  replace h1 : Ea16 1 = _ := (hs16 1 (by decide)).trans h1
  replace h2 : Ea16 2 = _ := (hs16 2 (by decide)).trans h2
  replace h3 : Ea16 3 = _ := (hs16 3 (by decide)).trans h3
  replace h4 : Ea16 4 = _ := (hs16 4 (by decide)).trans h4
  replace h5 : Ea16 5 = _ := (hs16 5 (by decide)).trans h5
  replace h6 : Ea16 6 = _ := (hs16 6 (by decide)).trans h6
  replace h7 : Ea16 7 = _ := (hs16 7 (by decide)).trans h7
  replace h8 : Ea16 8 = _ := (hs16 8 (by decide)).trans h8
  replace h9 := k9
  have h10 := k10
  have h11 := k11
  have h12 := k12
  have h13 := k13
  have h14 := k14
  have h15 := k15
  have h16 := k16
  have h17 := k17
  have h18 := k18
  replace hF : ∀ j : Nat, j < 0 → Ea16 j = E0 j := fun j hj => (hs16 j (by omega)).trans (hF j hj)
  show J l Γ Ω 2 ad 19 18 795 Ea16 34 [some (.ref (ad 0)), none] [.ref (ad 9), .ref (ad 0)]
  refine J_putF (q := 37) (ty := .object "FoldKeeper$Brackets") X dX9_init_34 gX9_24 rfl (hin rfl) rfl (by decide +kernel) rfl rfl h0 (by decide) (Nat.le_of_ble_eq_true rfl) rfl (fun Ea17 hk17 hs17 => ?_)
  replace h1 : Ea17 1 = _ := (hs17 1 (by decide)).trans h1
  replace h2 : Ea17 2 = _ := (hs17 2 (by decide)).trans h2
  replace h3 : Ea17 3 = _ := (hs17 3 (by decide)).trans h3
  replace h4 : Ea17 4 = _ := (hs17 4 (by decide)).trans h4
  replace h5 : Ea17 5 = _ := (hs17 5 (by decide)).trans h5
  replace h6 : Ea17 6 = _ := (hs17 6 (by decide)).trans h6
  replace h7 : Ea17 7 = _ := (hs17 7 (by decide)).trans h7
  replace h8 : Ea17 8 = _ := (hs17 8 (by decide)).trans h8
  replace h9 : Ea17 9 = _ := (hs17 9 (by decide)).trans h9
  replace h10 : Ea17 10 = _ := (hs17 10 (by decide)).trans h10
  replace h11 : Ea17 11 = _ := (hs17 11 (by decide)).trans h11
  replace h12 : Ea17 12 = _ := (hs17 12 (by decide)).trans h12
  replace h13 : Ea17 13 = _ := (hs17 13 (by decide)).trans h13
  replace h14 : Ea17 14 = _ := (hs17 14 (by decide)).trans h14
  replace h15 : Ea17 15 = _ := (hs17 15 (by decide)).trans h15
  replace h16 : Ea17 16 = _ := (hs17 16 (by decide)).trans h16
  replace h17 : Ea17 17 = _ := (hs17 17 (by decide)).trans h17
  replace h18 : Ea17 18 = _ := (hs17 18 (by decide)).trans h18
  replace h0 : Ea17 0 = .inr (8, [.ref (ad 1), .ref (ad 3), .ref (ad 9), .null, .null, .null, .null, .null, .int (jI 0)]) := hk17
  replace hF : ∀ j : Nat, j < 0 → Ea17 j = E0 j := fun j hj => (hs17 j (by omega)).trans (hF j hj)
  refine J_aload_n (q := 38) X dX9_init_37 rfl rfl ?_
  refine J_aload_n (q := 39) X dX9_init_38 rfl rfl ?_
  refine J_get (q := 42) X dX9_init_39 fX9_24 h0 (by decide) rfl rfl ?_
  refine J_get (q := 45) X dX9_init_42 fX9_28 h9 (by decide) rfl rfl ?_
  refine J_putF (q := 48) (ty := .object "FoldKeeper$Row") X dX9_init_45 gX9_32 rfl (hin rfl) rfl (by decide +kernel) rfl rfl h0 (by decide) (Nat.le_of_ble_eq_true rfl) rfl (fun Ea22 hk22 hs22 => ?_)
  replace h1 : Ea22 1 = _ := (hs22 1 (by decide)).trans h1
  replace h2 : Ea22 2 = _ := (hs22 2 (by decide)).trans h2
  replace h3 : Ea22 3 = _ := (hs22 3 (by decide)).trans h3
  replace h4 : Ea22 4 = _ := (hs22 4 (by decide)).trans h4
  replace h5 : Ea22 5 = _ := (hs22 5 (by decide)).trans h5
  replace h6 : Ea22 6 = _ := (hs22 6 (by decide)).trans h6
  replace h7 : Ea22 7 = _ := (hs22 7 (by decide)).trans h7
  replace h8 : Ea22 8 = _ := (hs22 8 (by decide)).trans h8
  replace h9 : Ea22 9 = _ := (hs22 9 (by decide)).trans h9
  replace h10 : Ea22 10 = _ := (hs22 10 (by decide)).trans h10
  replace h11 : Ea22 11 = _ := (hs22 11 (by decide)).trans h11
  replace h12 : Ea22 12 = _ := (hs22 12 (by decide)).trans h12
  replace h13 : Ea22 13 = _ := (hs22 13 (by decide)).trans h13
  replace h14 : Ea22 14 = _ := (hs22 14 (by decide)).trans h14
  replace h15 : Ea22 15 = _ := (hs22 15 (by decide)).trans h15
  replace h16 : Ea22 16 = _ := (hs22 16 (by decide)).trans h16
  replace h17 : Ea22 17 = _ := (hs22 17 (by decide)).trans h17
  replace h18 : Ea22 18 = _ := (hs22 18 (by decide)).trans h18
  replace h0 : Ea22 0 = .inr (8, [.ref (ad 1), .ref (ad 3), .ref (ad 9), .ref (ad 10), .null, .null, .null, .null, .int (jI 0)]) := hk22
  replace hF : ∀ j : Nat, j < 0 → Ea22 j = E0 j := fun j hj => (hs22 j (by omega)).trans (hF j hj)
  refine J_aload_n (q := 49) X dX9_init_48 rfl rfl ?_
  refine J_new (q := 52) X tyX2 [.null, .int (jI 0), .int (jI 0), .int (jI 0)] dX9_init_49 ⟨nX9_33, iRX2.1, iRX2.2⟩ clRX2 tyX2_ok (by decide +kernel) (by decide) (by decide) had rfl rfl (fun Ea24 hk24 hs24 => ?_)
  replace h0 : Ea24 0 = _ := (hs24 0 (by decide)).trans h0
  replace h1 : Ea24 1 = _ := (hs24 1 (by decide)).trans h1
  replace h2 : Ea24 2 = _ := (hs24 2 (by decide)).trans h2
  replace h3 : Ea24 3 = _ := (hs24 3 (by decide)).trans h3
  replace h4 : Ea24 4 = _ := (hs24 4 (by decide)).trans h4
  replace h5 : Ea24 5 = _ := (hs24 5 (by decide)).trans h5
  replace h6 : Ea24 6 = _ := (hs24 6 (by decide)).trans h6
  replace h7 : Ea24 7 = _ := (hs24 7 (by decide)).trans h7
  replace h8 : Ea24 8 = _ := (hs24 8 (by decide)).trans h8
  replace h9 : Ea24 9 = _ := (hs24 9 (by decide)).trans h9
  replace h10 : Ea24 10 = _ := (hs24 10 (by decide)).trans h10
  replace h11 : Ea24 11 = _ := (hs24 11 (by decide)).trans h11
  replace h12 : Ea24 12 = _ := (hs24 12 (by decide)).trans h12
  replace h13 : Ea24 13 = _ := (hs24 13 (by decide)).trans h13
  replace h14 : Ea24 14 = _ := (hs24 14 (by decide)).trans h14
  replace h15 : Ea24 15 = _ := (hs24 15 (by decide)).trans h15
  replace h16 : Ea24 16 = _ := (hs24 16 (by decide)).trans h16
  replace h17 : Ea24 17 = _ := (hs24 17 (by decide)).trans h17
  replace h18 : Ea24 18 = _ := (hs24 18 (by decide)).trans h18
  have h19 : Ea24 19 = .inr (2, [.null, .int (jI 0), .int (jI 0), .int (jI 0)]) := hk24
  replace hF : ∀ j : Nat, j < 0 → Ea24 j = E0 j := fun j hj => (hs24 j (by omega)).trans (hF j hj)
  show J l Γ Ω 2 ad 20 19 799 Ea24 52 [some (.ref (ad 0)), none] [.ref (ad 19), .ref (ad 0)]
  refine J_dup (q := 53) X dX9_init_52 rfl rfl ?_
  refine jrI (q := 56) X mX9_35 dX9_init_53 (c_X2_init h19) had rfl rfl rfl (Nat.le_of_ble_eq_true rfl) ⟨by decide, by decide, by decide, by decide⟩ rfl (fun rv Ea26 hp => ?_)
  obtain ⟨rfl, ⟨k19, k20, kg21, kg22⟩, hs26⟩ := hp
  replace h0 : Ea26 0 = _ := (hs26 0 (by decide)).trans h0
  replace h1 : Ea26 1 = _ := (hs26 1 (by decide)).trans h1
  replace h2 : Ea26 2 = _ := (hs26 2 (by decide)).trans h2
  replace h3 : Ea26 3 = _ := (hs26 3 (by decide)).trans h3
  replace h4 : Ea26 4 = _ := (hs26 4 (by decide)).trans h4
  replace h5 : Ea26 5 = _ := (hs26 5 (by decide)).trans h5
  replace h6 : Ea26 6 = _ := (hs26 6 (by decide)).trans h6
  replace h7 : Ea26 7 = _ := (hs26 7 (by decide)).trans h7
  replace h8 : Ea26 8 = _ := (hs26 8 (by decide)).trans h8
  replace h9 : Ea26 9 = _ := (hs26 9 (by decide)).trans h9
  replace h10 : Ea26 10 = _ := (hs26 10 (by decide)).trans h10
  replace h11 : Ea26 11 = _ := (hs26 11 (by decide)).trans h11
  replace h12 : Ea26 12 = _ := (hs26 12 (by decide)).trans h12
  replace h13 : Ea26 13 = _ := (hs26 13 (by decide)).trans h13
  replace h14 : Ea26 14 = _ := (hs26 14 (by decide)).trans h14
  replace h15 : Ea26 15 = _ := (hs26 15 (by decide)).trans h15
  replace h16 : Ea26 16 = _ := (hs26 16 (by decide)).trans h16
  replace h17 : Ea26 17 = _ := (hs26 17 (by decide)).trans h17
  replace h18 : Ea26 18 = _ := (hs26 18 (by decide)).trans h18
  replace h19 := k19
  have h20 := k20
  have hg21 := kg21
  have hg22 := kg22
  replace hF : ∀ j : Nat, j < 0 → Ea26 j = E0 j := fun j hj => (hs26 j (by omega)).trans (hF j hj)
  show J l Γ Ω 2 ad 63 62 2122 Ea26 56 [some (.ref (ad 0)), none] [.ref (ad 19), .ref (ad 0)]
  refine J_putF (q := 59) (ty := .object "FoldKeeper$History") X dX9_init_56 gX9_36 rfl (hin rfl) rfl (by decide +kernel) rfl rfl h0 (by decide) (Nat.le_of_ble_eq_true rfl) rfl (fun Ea27 hk27 hs27 => ?_)
  replace h1 : Ea27 1 = _ := (hs27 1 (by decide)).trans h1
  replace h2 : Ea27 2 = _ := (hs27 2 (by decide)).trans h2
  replace h3 : Ea27 3 = _ := (hs27 3 (by decide)).trans h3
  replace h4 : Ea27 4 = _ := (hs27 4 (by decide)).trans h4
  replace h5 : Ea27 5 = _ := (hs27 5 (by decide)).trans h5
  replace h6 : Ea27 6 = _ := (hs27 6 (by decide)).trans h6
  replace h7 : Ea27 7 = _ := (hs27 7 (by decide)).trans h7
  replace h8 : Ea27 8 = _ := (hs27 8 (by decide)).trans h8
  replace h9 : Ea27 9 = _ := (hs27 9 (by decide)).trans h9
  replace h10 : Ea27 10 = _ := (hs27 10 (by decide)).trans h10
  replace h11 : Ea27 11 = _ := (hs27 11 (by decide)).trans h11
  replace h12 : Ea27 12 = _ := (hs27 12 (by decide)).trans h12
  replace h13 : Ea27 13 = _ := (hs27 13 (by decide)).trans h13
  replace h14 : Ea27 14 = _ := (hs27 14 (by decide)).trans h14
  replace h15 : Ea27 15 = _ := (hs27 15 (by decide)).trans h15
  replace h16 : Ea27 16 = _ := (hs27 16 (by decide)).trans h16
  replace h17 : Ea27 17 = _ := (hs27 17 (by decide)).trans h17
  replace h18 : Ea27 18 = _ := (hs27 18 (by decide)).trans h18
  replace h19 : Ea27 19 = _ := (hs27 19 (by decide)).trans h19
  replace h20 : Ea27 20 = _ := (hs27 20 (by decide)).trans h20
  replace hg21 : ∀ i : Nat, i < 21 → Ea27 (21 + 2 * i) = _ := fun i hi => (hs27 (21 + 2 * i) (by omega)).trans (hg21 i hi)
  replace hg22 : ∀ i : Nat, i < 21 → Ea27 (22 + 2 * i) = _ := fun i hi => (hs27 (22 + 2 * i) (by omega)).trans (hg22 i hi)
  replace h0 : Ea27 0 = .inr (8, [.ref (ad 1), .ref (ad 3), .ref (ad 9), .ref (ad 10), .ref (ad 19), .null, .null, .null, .int (jI 0)]) := hk27
  replace hF : ∀ j : Nat, j < 0 → Ea27 j = E0 j := fun j hj => (hs27 j (by omega)).trans (hF j hj)
  refine J_aload_n (q := 60) X dX9_init_59 rfl rfl ?_
  refine J_iconst (q := 61) X dX9_init_60 rfl ?_
  refine J_anew (q := 64) X 2 2 dX9_init_61 nX9_40 (by first | exact Or.inl ⟨rfl, rfl⟩ | exact Or.inr ⟨rfl, rfl⟩) rfl (by decide) (by decide) (by decide) had rfl rfl (fun Ea30 hk30 hs30 => ?_)
  replace h0 : Ea30 0 = _ := (hs30 0 (by decide)).trans h0
  replace h1 : Ea30 1 = _ := (hs30 1 (by decide)).trans h1
  replace h2 : Ea30 2 = _ := (hs30 2 (by decide)).trans h2
  replace h3 : Ea30 3 = _ := (hs30 3 (by decide)).trans h3
  replace h4 : Ea30 4 = _ := (hs30 4 (by decide)).trans h4
  replace h5 : Ea30 5 = _ := (hs30 5 (by decide)).trans h5
  replace h6 : Ea30 6 = _ := (hs30 6 (by decide)).trans h6
  replace h7 : Ea30 7 = _ := (hs30 7 (by decide)).trans h7
  replace h8 : Ea30 8 = _ := (hs30 8 (by decide)).trans h8
  replace h9 : Ea30 9 = _ := (hs30 9 (by decide)).trans h9
  replace h10 : Ea30 10 = _ := (hs30 10 (by decide)).trans h10
  replace h11 : Ea30 11 = _ := (hs30 11 (by decide)).trans h11
  replace h12 : Ea30 12 = _ := (hs30 12 (by decide)).trans h12
  replace h13 : Ea30 13 = _ := (hs30 13 (by decide)).trans h13
  replace h14 : Ea30 14 = _ := (hs30 14 (by decide)).trans h14
  replace h15 : Ea30 15 = _ := (hs30 15 (by decide)).trans h15
  replace h16 : Ea30 16 = _ := (hs30 16 (by decide)).trans h16
  replace h17 : Ea30 17 = _ := (hs30 17 (by decide)).trans h17
  replace h18 : Ea30 18 = _ := (hs30 18 (by decide)).trans h18
  replace h19 : Ea30 19 = _ := (hs30 19 (by decide)).trans h19
  replace h20 : Ea30 20 = _ := (hs30 20 (by decide)).trans h20
  replace hg21 : ∀ i : Nat, i < 21 → Ea30 (21 + 2 * i) = _ := fun i hi => (hs30 (21 + 2 * i) (by omega)).trans (hg21 i hi)
  replace hg22 : ∀ i : Nat, i < 21 → Ea30 (22 + 2 * i) = _ := fun i hi => (hs30 (22 + 2 * i) (by omega)).trans (hg22 i hi)
  have h63 : Ea30 63 = aR Γ 2 2 (fun _ => none) := hk30
  replace hF : ∀ j : Nat, j < 0 → Ea30 j = E0 j := fun j hj => (hs30 j (by omega)).trans (hF j hj)
  show J l Γ Ω 2 ad 64 63 2124 Ea30 64 [some (.ref (ad 0)), none] [.ref (ad 63), .ref (ad 0)]
  refine J_putF (q := 67) (ty := .array (.object "FoldKeeper$Row")) X dX9_init_64 gX9_42 rfl (hin rfl) rfl (by decide +kernel) rfl rfl h0 (by decide) (Nat.le_of_ble_eq_true rfl) rfl (fun Ea31 hk31 hs31 => ?_)
  replace h1 : Ea31 1 = _ := (hs31 1 (by decide)).trans h1
  replace h2 : Ea31 2 = _ := (hs31 2 (by decide)).trans h2
  replace h3 : Ea31 3 = _ := (hs31 3 (by decide)).trans h3
  replace h4 : Ea31 4 = _ := (hs31 4 (by decide)).trans h4
  replace h5 : Ea31 5 = _ := (hs31 5 (by decide)).trans h5
  replace h6 : Ea31 6 = _ := (hs31 6 (by decide)).trans h6
  replace h7 : Ea31 7 = _ := (hs31 7 (by decide)).trans h7
  replace h8 : Ea31 8 = _ := (hs31 8 (by decide)).trans h8
  replace h9 : Ea31 9 = _ := (hs31 9 (by decide)).trans h9
  replace h10 : Ea31 10 = _ := (hs31 10 (by decide)).trans h10
  replace h11 : Ea31 11 = _ := (hs31 11 (by decide)).trans h11
  replace h12 : Ea31 12 = _ := (hs31 12 (by decide)).trans h12
  replace h13 : Ea31 13 = _ := (hs31 13 (by decide)).trans h13
  replace h14 : Ea31 14 = _ := (hs31 14 (by decide)).trans h14
  replace h15 : Ea31 15 = _ := (hs31 15 (by decide)).trans h15
  replace h16 : Ea31 16 = _ := (hs31 16 (by decide)).trans h16
  replace h17 : Ea31 17 = _ := (hs31 17 (by decide)).trans h17
  replace h18 : Ea31 18 = _ := (hs31 18 (by decide)).trans h18
  replace h19 : Ea31 19 = _ := (hs31 19 (by decide)).trans h19
  replace h20 : Ea31 20 = _ := (hs31 20 (by decide)).trans h20
  replace h63 : Ea31 63 = _ := (hs31 63 (by decide)).trans h63
  replace hg21 : ∀ i : Nat, i < 21 → Ea31 (21 + 2 * i) = _ := fun i hi => (hs31 (21 + 2 * i) (by omega)).trans (hg21 i hi)
  replace hg22 : ∀ i : Nat, i < 21 → Ea31 (22 + 2 * i) = _ := fun i hi => (hs31 (22 + 2 * i) (by omega)).trans (hg22 i hi)
  replace h0 : Ea31 0 = .inr (8, [.ref (ad 1), .ref (ad 3), .ref (ad 9), .ref (ad 10), .ref (ad 19), .ref (ad 63), .null, .null, .int (jI 0)]) := hk31
  replace hF : ∀ j : Nat, j < 0 → Ea31 j = E0 j := fun j hj => (hs31 j (by omega)).trans (hF j hj)
  refine J_iconst (q := 68) X dX9_init_67 rfl ?_
  refine J_istore_n (q := 69) X dX9_init_68 (by decide) rfl rfl ?_
  show J l Γ Ω 2 ad 64 63 2124 Ea31 69 [some (.ref (ad 0)), some (.int (jI 0))] []
  refine J_iload_n (q := 70) X dX9_init_69 rfl rfl ?_
  refine J_iconst (q := 71) X dX9_init_70 rfl ?_
  refine J_icmp_ge (q := 74) (tgt := 93) X dX9_init_71 (by decide) rfl (by omega) (by omega) (fun cq => ?_) (fun cq => ?_)
  case refine_1 => exfalso; omega
  refine J_aload_n (q := 75) X dX9_init_74 rfl rfl ?_
  refine J_get (q := 78) X dX9_init_75 fX9_42 h0 (by decide) rfl rfl ?_
  refine J_iload_n (q := 79) X dX9_init_78 rfl rfl ?_
  refine J_new (q := 82) X tyX3 [.null, .int (jI 0)] dX9_init_79 ⟨nX9_40, iRX3.1, iRX3.2⟩ clRX3 tyX3_ok (by decide +kernel) (by decide) (by decide) had rfl rfl (fun Ea40 hk40 hs40 => ?_)
  replace h0 : Ea40 0 = _ := (hs40 0 (by decide)).trans h0
  replace h1 : Ea40 1 = _ := (hs40 1 (by decide)).trans h1
  replace h2 : Ea40 2 = _ := (hs40 2 (by decide)).trans h2
  replace h3 : Ea40 3 = _ := (hs40 3 (by decide)).trans h3
  replace h4 : Ea40 4 = _ := (hs40 4 (by decide)).trans h4
  replace h5 : Ea40 5 = _ := (hs40 5 (by decide)).trans h5
  replace h6 : Ea40 6 = _ := (hs40 6 (by decide)).trans h6
  replace h7 : Ea40 7 = _ := (hs40 7 (by decide)).trans h7
  replace h8 : Ea40 8 = _ := (hs40 8 (by decide)).trans h8
  replace h9 : Ea40 9 = _ := (hs40 9 (by decide)).trans h9
  replace h10 : Ea40 10 = _ := (hs40 10 (by decide)).trans h10
  replace h11 : Ea40 11 = _ := (hs40 11 (by decide)).trans h11
  replace h12 : Ea40 12 = _ := (hs40 12 (by decide)).trans h12
  replace h13 : Ea40 13 = _ := (hs40 13 (by decide)).trans h13
  replace h14 : Ea40 14 = _ := (hs40 14 (by decide)).trans h14
  replace h15 : Ea40 15 = _ := (hs40 15 (by decide)).trans h15
  replace h16 : Ea40 16 = _ := (hs40 16 (by decide)).trans h16
  replace h17 : Ea40 17 = _ := (hs40 17 (by decide)).trans h17
  replace h18 : Ea40 18 = _ := (hs40 18 (by decide)).trans h18
  replace h19 : Ea40 19 = _ := (hs40 19 (by decide)).trans h19
  replace h20 : Ea40 20 = _ := (hs40 20 (by decide)).trans h20
  replace h63 : Ea40 63 = _ := (hs40 63 (by decide)).trans h63
  replace hg21 : ∀ i : Nat, i < 21 → Ea40 (21 + 2 * i) = _ := fun i hi => (hs40 (21 + 2 * i) (by omega)).trans (hg21 i hi)
  replace hg22 : ∀ i : Nat, i < 21 → Ea40 (22 + 2 * i) = _ := fun i hi => (hs40 (22 + 2 * i) (by omega)).trans (hg22 i hi)
  have h64 : Ea40 64 = .inr (3, [.null, .int (jI 0)]) := hk40
  replace hF : ∀ j : Nat, j < 0 → Ea40 j = E0 j := fun j hj => (hs40 j (by omega)).trans (hF j hj)
  show J l Γ Ω 2 ad 65 64 2126 Ea40 82 [some (.ref (ad 0)), some (.int (jI 0))] [.ref (ad 64), .int (jI 0), .ref (ad 63)]
  refine J_dup (q := 83) X dX9_init_82 rfl rfl ?_
  refine jrI (q := 86) X mX9_46 dX9_init_83 (c_X3_init (by decide) h64) had rfl rfl rfl (Nat.le_of_ble_eq_true rfl) ⟨by decide, by decide, by decide, by decide⟩ rfl (fun rv Ea42 hp => ?_)
  obtain ⟨rfl, hk42, hk42b, hs42⟩ := hp
  replace h0 : Ea42 0 = _ := (hs42 0 (by decide) (by decide)).trans h0
  replace h1 : Ea42 1 = _ := (hs42 1 (by decide) (by decide)).trans h1
  replace h2 : Ea42 2 = _ := (hs42 2 (by decide) (by decide)).trans h2
  replace h3 : Ea42 3 = _ := (hs42 3 (by decide) (by decide)).trans h3
  replace h4 : Ea42 4 = _ := (hs42 4 (by decide) (by decide)).trans h4
  replace h5 : Ea42 5 = _ := (hs42 5 (by decide) (by decide)).trans h5
  replace h6 : Ea42 6 = _ := (hs42 6 (by decide) (by decide)).trans h6
  replace h7 : Ea42 7 = _ := (hs42 7 (by decide) (by decide)).trans h7
  replace h8 : Ea42 8 = _ := (hs42 8 (by decide) (by decide)).trans h8
  replace h9 : Ea42 9 = _ := (hs42 9 (by decide) (by decide)).trans h9
  replace h10 : Ea42 10 = _ := (hs42 10 (by decide) (by decide)).trans h10
  replace h11 : Ea42 11 = _ := (hs42 11 (by decide) (by decide)).trans h11
  replace h12 : Ea42 12 = _ := (hs42 12 (by decide) (by decide)).trans h12
  replace h13 : Ea42 13 = _ := (hs42 13 (by decide) (by decide)).trans h13
  replace h14 : Ea42 14 = _ := (hs42 14 (by decide) (by decide)).trans h14
  replace h15 : Ea42 15 = _ := (hs42 15 (by decide) (by decide)).trans h15
  replace h16 : Ea42 16 = _ := (hs42 16 (by decide) (by decide)).trans h16
  replace h17 : Ea42 17 = _ := (hs42 17 (by decide) (by decide)).trans h17
  replace h18 : Ea42 18 = _ := (hs42 18 (by decide) (by decide)).trans h18
  replace h19 : Ea42 19 = _ := (hs42 19 (by decide) (by decide)).trans h19
  replace h20 : Ea42 20 = _ := (hs42 20 (by decide) (by decide)).trans h20
  replace h63 : Ea42 63 = _ := (hs42 63 (by decide) (by decide)).trans h63
  replace hg21 : ∀ i : Nat, i < 21 → Ea42 (21 + 2 * i) = _ := fun i hi => (hs42 (21 + 2 * i) (by omega) (by omega)).trans (hg21 i hi)
  replace hg22 : ∀ i : Nat, i < 21 → Ea42 (22 + 2 * i) = _ := fun i hi => (hs42 (22 + 2 * i) (by omega) (by omega)).trans (hg22 i hi)
  replace h64 : Ea42 64 = .inr (3, [.ref (ad 65), .int (jI 0)]) := hk42
  have h65 : Ea42 65 = aI Γ 60 (fun _ => 0) := hk42b
  replace hF : ∀ j : Nat, j < 0 → Ea42 j = E0 j := fun j hj => (hs42 j (by omega) (by omega)).trans (hF j hj)
  show J l Γ Ω 2 ad 66 65 2186 Ea42 86 [some (.ref (ad 0)), some (.int (jI 0))] [.ref (ad 64), .int (jI 0), .ref (ad 63)]
  refine J_aast (q := 87) X dX9_init_86 (Or.inl rfl) h63 (by decide) h64 (by decide) rfl rfl (by decide) (by decide) rfl (fun Ea43 hk43 hs43 => ?_)
  replace h0 : Ea43 0 = _ := (hs43 0 (by decide)).trans h0
  replace h1 : Ea43 1 = _ := (hs43 1 (by decide)).trans h1
  replace h2 : Ea43 2 = _ := (hs43 2 (by decide)).trans h2
  replace h3 : Ea43 3 = _ := (hs43 3 (by decide)).trans h3
  replace h4 : Ea43 4 = _ := (hs43 4 (by decide)).trans h4
  replace h5 : Ea43 5 = _ := (hs43 5 (by decide)).trans h5
  replace h6 : Ea43 6 = _ := (hs43 6 (by decide)).trans h6
  replace h7 : Ea43 7 = _ := (hs43 7 (by decide)).trans h7
  replace h8 : Ea43 8 = _ := (hs43 8 (by decide)).trans h8
  replace h9 : Ea43 9 = _ := (hs43 9 (by decide)).trans h9
  replace h10 : Ea43 10 = _ := (hs43 10 (by decide)).trans h10
  replace h11 : Ea43 11 = _ := (hs43 11 (by decide)).trans h11
  replace h12 : Ea43 12 = _ := (hs43 12 (by decide)).trans h12
  replace h13 : Ea43 13 = _ := (hs43 13 (by decide)).trans h13
  replace h14 : Ea43 14 = _ := (hs43 14 (by decide)).trans h14
  replace h15 : Ea43 15 = _ := (hs43 15 (by decide)).trans h15
  replace h16 : Ea43 16 = _ := (hs43 16 (by decide)).trans h16
  replace h17 : Ea43 17 = _ := (hs43 17 (by decide)).trans h17
  replace h18 : Ea43 18 = _ := (hs43 18 (by decide)).trans h18
  replace h19 : Ea43 19 = _ := (hs43 19 (by decide)).trans h19
  replace h20 : Ea43 20 = _ := (hs43 20 (by decide)).trans h20
  replace h64 : Ea43 64 = _ := (hs43 64 (by decide)).trans h64
  replace h65 : Ea43 65 = _ := (hs43 65 (by decide)).trans h65
  replace hg21 : ∀ i : Nat, i < 21 → Ea43 (21 + 2 * i) = _ := fun i hi => (hs43 (21 + 2 * i) (by omega)).trans (hg21 i hi)
  replace hg22 : ∀ i : Nat, i < 21 → Ea43 (22 + 2 * i) = _ := fun i hi => (hs43 (22 + 2 * i) (by omega)).trans (hg22 i hi)
  replace h63 : Ea43 63 = aR Γ 2 2 (va_up (fun _ => none) 0 (some (ad 64))) := hk43
  replace hF : ∀ j : Nat, j < 0 → Ea43 j = E0 j := fun j hj => (hs43 j (by omega)).trans (hF j hj)
  refine J_iinc (q := 90) X dX9_init_87 rfl (by decide) rfl rfl ?_
  show J l Γ Ω 2 ad 66 65 2186 Ea43 90 [some (.ref (ad 0)), some (.int (jI 1))] []
  refine J_goto (q := 69) X dX9_init_90 (by decide) ?_
  refine J_iload_n (q := 70) X dX9_init_69 rfl rfl ?_
  refine J_iconst (q := 71) X dX9_init_70 rfl ?_
  refine J_icmp_ge (q := 74) (tgt := 93) X dX9_init_71 (by decide) rfl (by omega) (by omega) (fun cq => ?_) (fun cq => ?_)
  case refine_1 => exfalso; omega
  refine J_aload_n (q := 75) X dX9_init_74 rfl rfl ?_
  refine J_get (q := 78) X dX9_init_75 fX9_42 h0 (by decide) rfl rfl ?_
  refine J_iload_n (q := 79) X dX9_init_78 rfl rfl ?_
  refine J_new (q := 82) X tyX3 [.null, .int (jI 0)] dX9_init_79 ⟨nX9_40, iRX3.1, iRX3.2⟩ clRX3 tyX3_ok (by decide +kernel) (by decide) (by decide) had rfl rfl (fun Ea52 hk52 hs52 => ?_)
  replace h0 : Ea52 0 = _ := (hs52 0 (by decide)).trans h0
  replace h1 : Ea52 1 = _ := (hs52 1 (by decide)).trans h1
  replace h2 : Ea52 2 = _ := (hs52 2 (by decide)).trans h2
  replace h3 : Ea52 3 = _ := (hs52 3 (by decide)).trans h3
  replace h4 : Ea52 4 = _ := (hs52 4 (by decide)).trans h4
  replace h5 : Ea52 5 = _ := (hs52 5 (by decide)).trans h5
  replace h6 : Ea52 6 = _ := (hs52 6 (by decide)).trans h6
  replace h7 : Ea52 7 = _ := (hs52 7 (by decide)).trans h7
  replace h8 : Ea52 8 = _ := (hs52 8 (by decide)).trans h8
  replace h9 : Ea52 9 = _ := (hs52 9 (by decide)).trans h9
  replace h10 : Ea52 10 = _ := (hs52 10 (by decide)).trans h10
  replace h11 : Ea52 11 = _ := (hs52 11 (by decide)).trans h11
  replace h12 : Ea52 12 = _ := (hs52 12 (by decide)).trans h12
  replace h13 : Ea52 13 = _ := (hs52 13 (by decide)).trans h13
  replace h14 : Ea52 14 = _ := (hs52 14 (by decide)).trans h14
  replace h15 : Ea52 15 = _ := (hs52 15 (by decide)).trans h15
  replace h16 : Ea52 16 = _ := (hs52 16 (by decide)).trans h16
  replace h17 : Ea52 17 = _ := (hs52 17 (by decide)).trans h17
  replace h18 : Ea52 18 = _ := (hs52 18 (by decide)).trans h18
  replace h19 : Ea52 19 = _ := (hs52 19 (by decide)).trans h19
  replace h20 : Ea52 20 = _ := (hs52 20 (by decide)).trans h20
  replace h63 : Ea52 63 = _ := (hs52 63 (by decide)).trans h63
  replace h64 : Ea52 64 = _ := (hs52 64 (by decide)).trans h64
  replace h65 : Ea52 65 = _ := (hs52 65 (by decide)).trans h65
  replace hg21 : ∀ i : Nat, i < 21 → Ea52 (21 + 2 * i) = _ := fun i hi => (hs52 (21 + 2 * i) (by omega)).trans (hg21 i hi)
  replace hg22 : ∀ i : Nat, i < 21 → Ea52 (22 + 2 * i) = _ := fun i hi => (hs52 (22 + 2 * i) (by omega)).trans (hg22 i hi)
  have h66 : Ea52 66 = .inr (3, [.null, .int (jI 0)]) := hk52
  replace hF : ∀ j : Nat, j < 0 → Ea52 j = E0 j := fun j hj => (hs52 j (by omega)).trans (hF j hj)
  show J l Γ Ω 2 ad 67 66 2188 Ea52 82 [some (.ref (ad 0)), some (.int (jI 1))] [.ref (ad 66), .int (jI 1), .ref (ad 63)]
  refine J_dup (q := 83) X dX9_init_82 rfl rfl ?_
  refine jrI (q := 86) X mX9_46 dX9_init_83 (c_X3_init (by decide) h66) had rfl rfl rfl (Nat.le_of_ble_eq_true rfl) ⟨by decide, by decide, by decide, by decide⟩ rfl (fun rv Ea54 hp => ?_)
  obtain ⟨rfl, hk54, hk54b, hs54⟩ := hp
  replace h0 : Ea54 0 = _ := (hs54 0 (by decide) (by decide)).trans h0
  replace h1 : Ea54 1 = _ := (hs54 1 (by decide) (by decide)).trans h1
  replace h2 : Ea54 2 = _ := (hs54 2 (by decide) (by decide)).trans h2
  replace h3 : Ea54 3 = _ := (hs54 3 (by decide) (by decide)).trans h3
  replace h4 : Ea54 4 = _ := (hs54 4 (by decide) (by decide)).trans h4
  replace h5 : Ea54 5 = _ := (hs54 5 (by decide) (by decide)).trans h5
  replace h6 : Ea54 6 = _ := (hs54 6 (by decide) (by decide)).trans h6
  replace h7 : Ea54 7 = _ := (hs54 7 (by decide) (by decide)).trans h7
  replace h8 : Ea54 8 = _ := (hs54 8 (by decide) (by decide)).trans h8
  replace h9 : Ea54 9 = _ := (hs54 9 (by decide) (by decide)).trans h9
  replace h10 : Ea54 10 = _ := (hs54 10 (by decide) (by decide)).trans h10
  replace h11 : Ea54 11 = _ := (hs54 11 (by decide) (by decide)).trans h11
  replace h12 : Ea54 12 = _ := (hs54 12 (by decide) (by decide)).trans h12
  replace h13 : Ea54 13 = _ := (hs54 13 (by decide) (by decide)).trans h13
  replace h14 : Ea54 14 = _ := (hs54 14 (by decide) (by decide)).trans h14
  replace h15 : Ea54 15 = _ := (hs54 15 (by decide) (by decide)).trans h15
  replace h16 : Ea54 16 = _ := (hs54 16 (by decide) (by decide)).trans h16
  replace h17 : Ea54 17 = _ := (hs54 17 (by decide) (by decide)).trans h17
  replace h18 : Ea54 18 = _ := (hs54 18 (by decide) (by decide)).trans h18
  replace h19 : Ea54 19 = _ := (hs54 19 (by decide) (by decide)).trans h19
  replace h20 : Ea54 20 = _ := (hs54 20 (by decide) (by decide)).trans h20
  replace h63 : Ea54 63 = _ := (hs54 63 (by decide) (by decide)).trans h63
  replace h64 : Ea54 64 = _ := (hs54 64 (by decide) (by decide)).trans h64
  replace h65 : Ea54 65 = _ := (hs54 65 (by decide) (by decide)).trans h65
  replace hg21 : ∀ i : Nat, i < 21 → Ea54 (21 + 2 * i) = _ := fun i hi => (hs54 (21 + 2 * i) (by omega) (by omega)).trans (hg21 i hi)
  replace hg22 : ∀ i : Nat, i < 21 → Ea54 (22 + 2 * i) = _ := fun i hi => (hs54 (22 + 2 * i) (by omega) (by omega)).trans (hg22 i hi)
  replace h66 : Ea54 66 = .inr (3, [.ref (ad 67), .int (jI 0)]) := hk54
  have h67 : Ea54 67 = aI Γ 60 (fun _ => 0) := hk54b
  replace hF : ∀ j : Nat, j < 0 → Ea54 j = E0 j := fun j hj => (hs54 j (by omega) (by omega)).trans (hF j hj)
  show J l Γ Ω 2 ad 68 67 2248 Ea54 86 [some (.ref (ad 0)), some (.int (jI 1))] [.ref (ad 66), .int (jI 1), .ref (ad 63)]
  refine J_aast (q := 87) X dX9_init_86 (Or.inl rfl) h63 (by decide) h66 (by decide) rfl rfl (by decide) (by decide) rfl (fun Ea55 hk55 hs55 => ?_)
  replace h0 : Ea55 0 = _ := (hs55 0 (by decide)).trans h0
  replace h1 : Ea55 1 = _ := (hs55 1 (by decide)).trans h1
  replace h2 : Ea55 2 = _ := (hs55 2 (by decide)).trans h2
  replace h3 : Ea55 3 = _ := (hs55 3 (by decide)).trans h3
  replace h4 : Ea55 4 = _ := (hs55 4 (by decide)).trans h4
  replace h5 : Ea55 5 = _ := (hs55 5 (by decide)).trans h5
  replace h6 : Ea55 6 = _ := (hs55 6 (by decide)).trans h6
  replace h7 : Ea55 7 = _ := (hs55 7 (by decide)).trans h7
  replace h8 : Ea55 8 = _ := (hs55 8 (by decide)).trans h8
  replace h9 : Ea55 9 = _ := (hs55 9 (by decide)).trans h9
  replace h10 : Ea55 10 = _ := (hs55 10 (by decide)).trans h10
  replace h11 : Ea55 11 = _ := (hs55 11 (by decide)).trans h11
  replace h12 : Ea55 12 = _ := (hs55 12 (by decide)).trans h12
  replace h13 : Ea55 13 = _ := (hs55 13 (by decide)).trans h13
  replace h14 : Ea55 14 = _ := (hs55 14 (by decide)).trans h14
  replace h15 : Ea55 15 = _ := (hs55 15 (by decide)).trans h15
  replace h16 : Ea55 16 = _ := (hs55 16 (by decide)).trans h16
  replace h17 : Ea55 17 = _ := (hs55 17 (by decide)).trans h17
  replace h18 : Ea55 18 = _ := (hs55 18 (by decide)).trans h18
  replace h19 : Ea55 19 = _ := (hs55 19 (by decide)).trans h19
  replace h20 : Ea55 20 = _ := (hs55 20 (by decide)).trans h20
  replace h64 : Ea55 64 = _ := (hs55 64 (by decide)).trans h64
  replace h65 : Ea55 65 = _ := (hs55 65 (by decide)).trans h65
  replace h66 : Ea55 66 = _ := (hs55 66 (by decide)).trans h66
  replace h67 : Ea55 67 = _ := (hs55 67 (by decide)).trans h67
  replace hg21 : ∀ i : Nat, i < 21 → Ea55 (21 + 2 * i) = _ := fun i hi => (hs55 (21 + 2 * i) (by omega)).trans (hg21 i hi)
  replace hg22 : ∀ i : Nat, i < 21 → Ea55 (22 + 2 * i) = _ := fun i hi => (hs55 (22 + 2 * i) (by omega)).trans (hg22 i hi)
  replace h63 : Ea55 63 = aR Γ 2 2 (va_up (va_up (fun _ => none) 0 (some (ad 64))) 1 (some (ad 66))) := hk55
  replace hF : ∀ j : Nat, j < 0 → Ea55 j = E0 j := fun j hj => (hs55 j (by omega)).trans (hF j hj)
  refine J_iinc (q := 90) X dX9_init_87 rfl (by decide) rfl rfl ?_
  show J l Γ Ω 2 ad 68 67 2248 Ea55 90 [some (.ref (ad 0)), some (.int (jI 2))] []
  refine J_goto (q := 69) X dX9_init_90 (by decide) ?_
  refine J_iload_n (q := 70) X dX9_init_69 rfl rfl ?_
  refine J_iconst (q := 71) X dX9_init_70 rfl ?_
  refine J_icmp_ge (q := 74) (tgt := 93) X dX9_init_71 (by decide) rfl (by omega) (by omega) (fun cq => ?_) (fun cq => ?_)
  case refine_2 => exfalso; omega
  refine J_aload_n (q := 94) X dX9_init_93 rfl rfl ?_
  refine J_iconst (q := 95) X dX9_init_94 rfl ?_
  refine J_newZ (q := 97) X 2 dX9_init_95 wArrZ rfl (by decide) (by decide) (by decide) had rfl rfl (fun Ea63 hk63 hs63 => ?_)
  replace h0 : Ea63 0 = _ := (hs63 0 (by decide)).trans h0
  replace h1 : Ea63 1 = _ := (hs63 1 (by decide)).trans h1
  replace h2 : Ea63 2 = _ := (hs63 2 (by decide)).trans h2
  replace h3 : Ea63 3 = _ := (hs63 3 (by decide)).trans h3
  replace h4 : Ea63 4 = _ := (hs63 4 (by decide)).trans h4
  replace h5 : Ea63 5 = _ := (hs63 5 (by decide)).trans h5
  replace h6 : Ea63 6 = _ := (hs63 6 (by decide)).trans h6
  replace h7 : Ea63 7 = _ := (hs63 7 (by decide)).trans h7
  replace h8 : Ea63 8 = _ := (hs63 8 (by decide)).trans h8
  replace h9 : Ea63 9 = _ := (hs63 9 (by decide)).trans h9
  replace h10 : Ea63 10 = _ := (hs63 10 (by decide)).trans h10
  replace h11 : Ea63 11 = _ := (hs63 11 (by decide)).trans h11
  replace h12 : Ea63 12 = _ := (hs63 12 (by decide)).trans h12
  replace h13 : Ea63 13 = _ := (hs63 13 (by decide)).trans h13
  replace h14 : Ea63 14 = _ := (hs63 14 (by decide)).trans h14
  replace h15 : Ea63 15 = _ := (hs63 15 (by decide)).trans h15
  replace h16 : Ea63 16 = _ := (hs63 16 (by decide)).trans h16
  replace h17 : Ea63 17 = _ := (hs63 17 (by decide)).trans h17
  replace h18 : Ea63 18 = _ := (hs63 18 (by decide)).trans h18
  replace h19 : Ea63 19 = _ := (hs63 19 (by decide)).trans h19
  replace h20 : Ea63 20 = _ := (hs63 20 (by decide)).trans h20
  replace h63 : Ea63 63 = _ := (hs63 63 (by decide)).trans h63
  replace h64 : Ea63 64 = _ := (hs63 64 (by decide)).trans h64
  replace h65 : Ea63 65 = _ := (hs63 65 (by decide)).trans h65
  replace h66 : Ea63 66 = _ := (hs63 66 (by decide)).trans h66
  replace h67 : Ea63 67 = _ := (hs63 67 (by decide)).trans h67
  replace hg21 : ∀ i : Nat, i < 21 → Ea63 (21 + 2 * i) = _ := fun i hi => (hs63 (21 + 2 * i) (by omega)).trans (hg21 i hi)
  replace hg22 : ∀ i : Nat, i < 21 → Ea63 (22 + 2 * i) = _ := fun i hi => (hs63 (22 + 2 * i) (by omega)).trans (hg22 i hi)
  have h68 : Ea63 68 = aZ Γ 2 (fun _ => 0) := hk63
  replace hF : ∀ j : Nat, j < 0 → Ea63 j = E0 j := fun j hj => (hs63 j (by omega)).trans (hF j hj)
  show J l Γ Ω 2 ad 69 68 2250 Ea63 97 [some (.ref (ad 0)), some (.int (jI 2))] [.ref (ad 68), .ref (ad 0)]
  refine J_putF (q := 100) (ty := .array .boolean) X dX9_init_97 gX9_47 rfl (hin rfl) rfl (by decide +kernel) rfl rfl h0 (by decide) (Nat.le_of_ble_eq_true rfl) rfl (fun Ea64 hk64 hs64 => ?_)
  replace h1 : Ea64 1 = _ := (hs64 1 (by decide)).trans h1
  replace h2 : Ea64 2 = _ := (hs64 2 (by decide)).trans h2
  replace h3 : Ea64 3 = _ := (hs64 3 (by decide)).trans h3
  replace h4 : Ea64 4 = _ := (hs64 4 (by decide)).trans h4
  replace h5 : Ea64 5 = _ := (hs64 5 (by decide)).trans h5
  replace h6 : Ea64 6 = _ := (hs64 6 (by decide)).trans h6
  replace h7 : Ea64 7 = _ := (hs64 7 (by decide)).trans h7
  replace h8 : Ea64 8 = _ := (hs64 8 (by decide)).trans h8
  replace h9 : Ea64 9 = _ := (hs64 9 (by decide)).trans h9
  replace h10 : Ea64 10 = _ := (hs64 10 (by decide)).trans h10
  replace h11 : Ea64 11 = _ := (hs64 11 (by decide)).trans h11
  replace h12 : Ea64 12 = _ := (hs64 12 (by decide)).trans h12
  replace h13 : Ea64 13 = _ := (hs64 13 (by decide)).trans h13
  replace h14 : Ea64 14 = _ := (hs64 14 (by decide)).trans h14
  replace h15 : Ea64 15 = _ := (hs64 15 (by decide)).trans h15
  replace h16 : Ea64 16 = _ := (hs64 16 (by decide)).trans h16
  replace h17 : Ea64 17 = _ := (hs64 17 (by decide)).trans h17
  replace h18 : Ea64 18 = _ := (hs64 18 (by decide)).trans h18
  replace h19 : Ea64 19 = _ := (hs64 19 (by decide)).trans h19
  replace h20 : Ea64 20 = _ := (hs64 20 (by decide)).trans h20
  replace h63 : Ea64 63 = _ := (hs64 63 (by decide)).trans h63
  replace h64 : Ea64 64 = _ := (hs64 64 (by decide)).trans h64
  replace h65 : Ea64 65 = _ := (hs64 65 (by decide)).trans h65
  replace h66 : Ea64 66 = _ := (hs64 66 (by decide)).trans h66
  replace h67 : Ea64 67 = _ := (hs64 67 (by decide)).trans h67
  replace h68 : Ea64 68 = _ := (hs64 68 (by decide)).trans h68
  replace hg21 : ∀ i : Nat, i < 21 → Ea64 (21 + 2 * i) = _ := fun i hi => (hs64 (21 + 2 * i) (by omega)).trans (hg21 i hi)
  replace hg22 : ∀ i : Nat, i < 21 → Ea64 (22 + 2 * i) = _ := fun i hi => (hs64 (22 + 2 * i) (by omega)).trans (hg22 i hi)
  replace h0 : Ea64 0 = .inr (8, [.ref (ad 1), .ref (ad 3), .ref (ad 9), .ref (ad 10), .ref (ad 19), .ref (ad 63), .ref (ad 68), .null, .int (jI 0)]) := hk64
  replace hF : ∀ j : Nat, j < 0 → Ea64 j = E0 j := fun j hj => (hs64 j (by omega)).trans (hF j hj)
  refine J_aload_n (q := 101) X dX9_init_100 rfl rfl ?_
  refine J_iconst (q := 102) X dX9_init_101 rfl ?_
  refine J_anew (q := 105) X 3 4 dX9_init_102 nX9_51 (by first | exact Or.inl ⟨rfl, rfl⟩ | exact Or.inr ⟨rfl, rfl⟩) rfl (by decide) (by decide) (by decide) had rfl rfl (fun Ea67 hk67 hs67 => ?_)
  replace h0 : Ea67 0 = _ := (hs67 0 (by decide)).trans h0
  replace h1 : Ea67 1 = _ := (hs67 1 (by decide)).trans h1
  replace h2 : Ea67 2 = _ := (hs67 2 (by decide)).trans h2
  replace h3 : Ea67 3 = _ := (hs67 3 (by decide)).trans h3
  replace h4 : Ea67 4 = _ := (hs67 4 (by decide)).trans h4
  replace h5 : Ea67 5 = _ := (hs67 5 (by decide)).trans h5
  replace h6 : Ea67 6 = _ := (hs67 6 (by decide)).trans h6
  replace h7 : Ea67 7 = _ := (hs67 7 (by decide)).trans h7
  replace h8 : Ea67 8 = _ := (hs67 8 (by decide)).trans h8
  replace h9 : Ea67 9 = _ := (hs67 9 (by decide)).trans h9
  replace h10 : Ea67 10 = _ := (hs67 10 (by decide)).trans h10
  replace h11 : Ea67 11 = _ := (hs67 11 (by decide)).trans h11
  replace h12 : Ea67 12 = _ := (hs67 12 (by decide)).trans h12
  replace h13 : Ea67 13 = _ := (hs67 13 (by decide)).trans h13
  replace h14 : Ea67 14 = _ := (hs67 14 (by decide)).trans h14
  replace h15 : Ea67 15 = _ := (hs67 15 (by decide)).trans h15
  replace h16 : Ea67 16 = _ := (hs67 16 (by decide)).trans h16
  replace h17 : Ea67 17 = _ := (hs67 17 (by decide)).trans h17
  replace h18 : Ea67 18 = _ := (hs67 18 (by decide)).trans h18
  replace h19 : Ea67 19 = _ := (hs67 19 (by decide)).trans h19
  replace h20 : Ea67 20 = _ := (hs67 20 (by decide)).trans h20
  replace h63 : Ea67 63 = _ := (hs67 63 (by decide)).trans h63
  replace h64 : Ea67 64 = _ := (hs67 64 (by decide)).trans h64
  replace h65 : Ea67 65 = _ := (hs67 65 (by decide)).trans h65
  replace h66 : Ea67 66 = _ := (hs67 66 (by decide)).trans h66
  replace h67 : Ea67 67 = _ := (hs67 67 (by decide)).trans h67
  replace h68 : Ea67 68 = _ := (hs67 68 (by decide)).trans h68
  replace hg21 : ∀ i : Nat, i < 21 → Ea67 (21 + 2 * i) = _ := fun i hi => (hs67 (21 + 2 * i) (by omega)).trans (hg21 i hi)
  replace hg22 : ∀ i : Nat, i < 21 → Ea67 (22 + 2 * i) = _ := fun i hi => (hs67 (22 + 2 * i) (by omega)).trans (hg22 i hi)
  have h69 : Ea67 69 = aR Γ 3 4 (fun _ => none) := hk67
  replace hF : ∀ j : Nat, j < 0 → Ea67 j = E0 j := fun j hj => (hs67 j (by omega)).trans (hF j hj)
  show J l Γ Ω 2 ad 70 69 2254 Ea67 105 [some (.ref (ad 0)), some (.int (jI 2))] [.ref (ad 69), .ref (ad 0)]
  refine J_putF (q := 108) (ty := .array (.object "FoldKeeper$Sheet")) X dX9_init_105 gX9_53 rfl (hin rfl) rfl (by decide +kernel) rfl rfl h0 (by decide) (Nat.le_of_ble_eq_true rfl) rfl (fun Ea68 hk68 hs68 => ?_)
  replace h1 : Ea68 1 = _ := (hs68 1 (by decide)).trans h1
  replace h2 : Ea68 2 = _ := (hs68 2 (by decide)).trans h2
  replace h3 : Ea68 3 = _ := (hs68 3 (by decide)).trans h3
  replace h4 : Ea68 4 = _ := (hs68 4 (by decide)).trans h4
  replace h5 : Ea68 5 = _ := (hs68 5 (by decide)).trans h5
  replace h6 : Ea68 6 = _ := (hs68 6 (by decide)).trans h6
  replace h7 : Ea68 7 = _ := (hs68 7 (by decide)).trans h7
  replace h8 : Ea68 8 = _ := (hs68 8 (by decide)).trans h8
  replace h9 : Ea68 9 = _ := (hs68 9 (by decide)).trans h9
  replace h10 : Ea68 10 = _ := (hs68 10 (by decide)).trans h10
  replace h11 : Ea68 11 = _ := (hs68 11 (by decide)).trans h11
  replace h12 : Ea68 12 = _ := (hs68 12 (by decide)).trans h12
  replace h13 : Ea68 13 = _ := (hs68 13 (by decide)).trans h13
  replace h14 : Ea68 14 = _ := (hs68 14 (by decide)).trans h14
  replace h15 : Ea68 15 = _ := (hs68 15 (by decide)).trans h15
  replace h16 : Ea68 16 = _ := (hs68 16 (by decide)).trans h16
  replace h17 : Ea68 17 = _ := (hs68 17 (by decide)).trans h17
  replace h18 : Ea68 18 = _ := (hs68 18 (by decide)).trans h18
  replace h19 : Ea68 19 = _ := (hs68 19 (by decide)).trans h19
  replace h20 : Ea68 20 = _ := (hs68 20 (by decide)).trans h20
  replace h63 : Ea68 63 = _ := (hs68 63 (by decide)).trans h63
  replace h64 : Ea68 64 = _ := (hs68 64 (by decide)).trans h64
  replace h65 : Ea68 65 = _ := (hs68 65 (by decide)).trans h65
  replace h66 : Ea68 66 = _ := (hs68 66 (by decide)).trans h66
  replace h67 : Ea68 67 = _ := (hs68 67 (by decide)).trans h67
  replace h68 : Ea68 68 = _ := (hs68 68 (by decide)).trans h68
  replace h69 : Ea68 69 = _ := (hs68 69 (by decide)).trans h69
  replace hg21 : ∀ i : Nat, i < 21 → Ea68 (21 + 2 * i) = _ := fun i hi => (hs68 (21 + 2 * i) (by omega)).trans (hg21 i hi)
  replace hg22 : ∀ i : Nat, i < 21 → Ea68 (22 + 2 * i) = _ := fun i hi => (hs68 (22 + 2 * i) (by omega)).trans (hg22 i hi)
  replace h0 : Ea68 0 = .inr (8, [.ref (ad 1), .ref (ad 3), .ref (ad 9), .ref (ad 10), .ref (ad 19), .ref (ad 63), .ref (ad 68), .ref (ad 69), .int (jI 0)]) := hk68
  replace hF : ∀ j : Nat, j < 0 → Ea68 j = E0 j := fun j hj => (hs68 j (by omega)).trans (hF j hj)
  refine J_iconst (q := 109) X dX9_init_108 rfl ?_
  refine J_istore_n (q := 110) X dX9_init_109 (by decide) rfl rfl ?_
  show J l Γ Ω 2 ad 70 69 2254 Ea68 110 [some (.ref (ad 0)), some (.int (jI 0))] []
  refine J_iload_n (q := 111) X dX9_init_110 rfl rfl ?_
  refine J_iconst (q := 112) X dX9_init_111 rfl ?_
  refine J_icmp_ge (q := 115) (tgt := 134) X dX9_init_112 (by decide) rfl (by omega) (by omega) (fun cq => ?_) (fun cq => ?_)
  case refine_1 => exfalso; omega
  refine J_aload_n (q := 116) X dX9_init_115 rfl rfl ?_
  refine J_get (q := 119) X dX9_init_116 fX9_53 h0 (by decide) rfl rfl ?_
  refine J_iload_n (q := 120) X dX9_init_119 rfl rfl ?_
  refine J_new (q := 123) X tyX4 [.null, .int (jI 0), .int (jI 0), .int (jI 0)] dX9_init_120 ⟨nX9_51, iRX4.1, iRX4.2⟩ clRX4 tyX4_ok (by decide +kernel) (by decide) (by decide) had rfl rfl (fun Ea77 hk77 hs77 => ?_)
  replace h0 : Ea77 0 = _ := (hs77 0 (by decide)).trans h0
  replace h1 : Ea77 1 = _ := (hs77 1 (by decide)).trans h1
  replace h2 : Ea77 2 = _ := (hs77 2 (by decide)).trans h2
  replace h3 : Ea77 3 = _ := (hs77 3 (by decide)).trans h3
  replace h4 : Ea77 4 = _ := (hs77 4 (by decide)).trans h4
  replace h5 : Ea77 5 = _ := (hs77 5 (by decide)).trans h5
  replace h6 : Ea77 6 = _ := (hs77 6 (by decide)).trans h6
  replace h7 : Ea77 7 = _ := (hs77 7 (by decide)).trans h7
  replace h8 : Ea77 8 = _ := (hs77 8 (by decide)).trans h8
  replace h9 : Ea77 9 = _ := (hs77 9 (by decide)).trans h9
  replace h10 : Ea77 10 = _ := (hs77 10 (by decide)).trans h10
  replace h11 : Ea77 11 = _ := (hs77 11 (by decide)).trans h11
  replace h12 : Ea77 12 = _ := (hs77 12 (by decide)).trans h12
  replace h13 : Ea77 13 = _ := (hs77 13 (by decide)).trans h13
  replace h14 : Ea77 14 = _ := (hs77 14 (by decide)).trans h14
  replace h15 : Ea77 15 = _ := (hs77 15 (by decide)).trans h15
  replace h16 : Ea77 16 = _ := (hs77 16 (by decide)).trans h16
  replace h17 : Ea77 17 = _ := (hs77 17 (by decide)).trans h17
  replace h18 : Ea77 18 = _ := (hs77 18 (by decide)).trans h18
  replace h19 : Ea77 19 = _ := (hs77 19 (by decide)).trans h19
  replace h20 : Ea77 20 = _ := (hs77 20 (by decide)).trans h20
  replace h63 : Ea77 63 = _ := (hs77 63 (by decide)).trans h63
  replace h64 : Ea77 64 = _ := (hs77 64 (by decide)).trans h64
  replace h65 : Ea77 65 = _ := (hs77 65 (by decide)).trans h65
  replace h66 : Ea77 66 = _ := (hs77 66 (by decide)).trans h66
  replace h67 : Ea77 67 = _ := (hs77 67 (by decide)).trans h67
  replace h68 : Ea77 68 = _ := (hs77 68 (by decide)).trans h68
  replace h69 : Ea77 69 = _ := (hs77 69 (by decide)).trans h69
  replace hg21 : ∀ i : Nat, i < 21 → Ea77 (21 + 2 * i) = _ := fun i hi => (hs77 (21 + 2 * i) (by omega)).trans (hg21 i hi)
  replace hg22 : ∀ i : Nat, i < 21 → Ea77 (22 + 2 * i) = _ := fun i hi => (hs77 (22 + 2 * i) (by omega)).trans (hg22 i hi)
  have h70 : Ea77 70 = .inr (4, [.null, .int (jI 0), .int (jI 0), .int (jI 0)]) := hk77
  replace hF : ∀ j : Nat, j < 0 → Ea77 j = E0 j := fun j hj => (hs77 j (by omega)).trans (hF j hj)
  show J l Γ Ω 2 ad 71 70 2258 Ea77 123 [some (.ref (ad 0)), some (.int (jI 0))] [.ref (ad 70), .int (jI 0), .ref (ad 69)]
  refine J_dup (q := 124) X dX9_init_123 rfl rfl ?_
  refine jrI (q := 127) X mX9_57 dX9_init_124 (c_X4_init (by decide) h70) had rfl rfl rfl (Nat.le_of_ble_eq_true rfl) ⟨by decide, by decide, by decide, by decide⟩ rfl (fun rv Ea79 hp => ?_)
  obtain ⟨rfl, hk79, hk79b, hs79⟩ := hp
  replace h0 : Ea79 0 = _ := (hs79 0 (by decide) (by decide)).trans h0
  replace h1 : Ea79 1 = _ := (hs79 1 (by decide) (by decide)).trans h1
  replace h2 : Ea79 2 = _ := (hs79 2 (by decide) (by decide)).trans h2
  replace h3 : Ea79 3 = _ := (hs79 3 (by decide) (by decide)).trans h3
  replace h4 : Ea79 4 = _ := (hs79 4 (by decide) (by decide)).trans h4
  replace h5 : Ea79 5 = _ := (hs79 5 (by decide) (by decide)).trans h5
  replace h6 : Ea79 6 = _ := (hs79 6 (by decide) (by decide)).trans h6
  replace h7 : Ea79 7 = _ := (hs79 7 (by decide) (by decide)).trans h7
  replace h8 : Ea79 8 = _ := (hs79 8 (by decide) (by decide)).trans h8
  replace h9 : Ea79 9 = _ := (hs79 9 (by decide) (by decide)).trans h9
  replace h10 : Ea79 10 = _ := (hs79 10 (by decide) (by decide)).trans h10
  replace h11 : Ea79 11 = _ := (hs79 11 (by decide) (by decide)).trans h11
  replace h12 : Ea79 12 = _ := (hs79 12 (by decide) (by decide)).trans h12
  replace h13 : Ea79 13 = _ := (hs79 13 (by decide) (by decide)).trans h13
  replace h14 : Ea79 14 = _ := (hs79 14 (by decide) (by decide)).trans h14
  replace h15 : Ea79 15 = _ := (hs79 15 (by decide) (by decide)).trans h15
  replace h16 : Ea79 16 = _ := (hs79 16 (by decide) (by decide)).trans h16
  replace h17 : Ea79 17 = _ := (hs79 17 (by decide) (by decide)).trans h17
  replace h18 : Ea79 18 = _ := (hs79 18 (by decide) (by decide)).trans h18
  replace h19 : Ea79 19 = _ := (hs79 19 (by decide) (by decide)).trans h19
  replace h20 : Ea79 20 = _ := (hs79 20 (by decide) (by decide)).trans h20
  replace h63 : Ea79 63 = _ := (hs79 63 (by decide) (by decide)).trans h63
  replace h64 : Ea79 64 = _ := (hs79 64 (by decide) (by decide)).trans h64
  replace h65 : Ea79 65 = _ := (hs79 65 (by decide) (by decide)).trans h65
  replace h66 : Ea79 66 = _ := (hs79 66 (by decide) (by decide)).trans h66
  replace h67 : Ea79 67 = _ := (hs79 67 (by decide) (by decide)).trans h67
  replace h68 : Ea79 68 = _ := (hs79 68 (by decide) (by decide)).trans h68
  replace h69 : Ea79 69 = _ := (hs79 69 (by decide) (by decide)).trans h69
  replace hg21 : ∀ i : Nat, i < 21 → Ea79 (21 + 2 * i) = _ := fun i hi => (hs79 (21 + 2 * i) (by omega) (by omega)).trans (hg21 i hi)
  replace hg22 : ∀ i : Nat, i < 21 → Ea79 (22 + 2 * i) = _ := fun i hi => (hs79 (22 + 2 * i) (by omega) (by omega)).trans (hg22 i hi)
  replace h70 : Ea79 70 = .inr (4, [.ref (ad 71), .int (jI 0), .int (jI 0), .int (jI 0)]) := hk79
  have h71 : Ea79 71 = aI Γ 40 (fun _ => 0) := hk79b
  replace hF : ∀ j : Nat, j < 0 → Ea79 j = E0 j := fun j hj => (hs79 j (by omega) (by omega)).trans (hF j hj)
  show J l Γ Ω 2 ad 72 71 2298 Ea79 127 [some (.ref (ad 0)), some (.int (jI 0))] [.ref (ad 70), .int (jI 0), .ref (ad 69)]
  refine J_aast (q := 128) X dX9_init_127 (Or.inr rfl) h69 (by decide) h70 (by decide) rfl rfl (by decide) (by decide) rfl (fun Ea80 hk80 hs80 => ?_)
  replace h0 : Ea80 0 = _ := (hs80 0 (by decide)).trans h0
  replace h1 : Ea80 1 = _ := (hs80 1 (by decide)).trans h1
  replace h2 : Ea80 2 = _ := (hs80 2 (by decide)).trans h2
  replace h3 : Ea80 3 = _ := (hs80 3 (by decide)).trans h3
  replace h4 : Ea80 4 = _ := (hs80 4 (by decide)).trans h4
  replace h5 : Ea80 5 = _ := (hs80 5 (by decide)).trans h5
  replace h6 : Ea80 6 = _ := (hs80 6 (by decide)).trans h6
  replace h7 : Ea80 7 = _ := (hs80 7 (by decide)).trans h7
  replace h8 : Ea80 8 = _ := (hs80 8 (by decide)).trans h8
  replace h9 : Ea80 9 = _ := (hs80 9 (by decide)).trans h9
  replace h10 : Ea80 10 = _ := (hs80 10 (by decide)).trans h10
  replace h11 : Ea80 11 = _ := (hs80 11 (by decide)).trans h11
  replace h12 : Ea80 12 = _ := (hs80 12 (by decide)).trans h12
  replace h13 : Ea80 13 = _ := (hs80 13 (by decide)).trans h13
  replace h14 : Ea80 14 = _ := (hs80 14 (by decide)).trans h14
  replace h15 : Ea80 15 = _ := (hs80 15 (by decide)).trans h15
  replace h16 : Ea80 16 = _ := (hs80 16 (by decide)).trans h16
  replace h17 : Ea80 17 = _ := (hs80 17 (by decide)).trans h17
  replace h18 : Ea80 18 = _ := (hs80 18 (by decide)).trans h18
  replace h19 : Ea80 19 = _ := (hs80 19 (by decide)).trans h19
  replace h20 : Ea80 20 = _ := (hs80 20 (by decide)).trans h20
  replace h63 : Ea80 63 = _ := (hs80 63 (by decide)).trans h63
  replace h64 : Ea80 64 = _ := (hs80 64 (by decide)).trans h64
  replace h65 : Ea80 65 = _ := (hs80 65 (by decide)).trans h65
  replace h66 : Ea80 66 = _ := (hs80 66 (by decide)).trans h66
  replace h67 : Ea80 67 = _ := (hs80 67 (by decide)).trans h67
  replace h68 : Ea80 68 = _ := (hs80 68 (by decide)).trans h68
  replace h70 : Ea80 70 = _ := (hs80 70 (by decide)).trans h70
  replace h71 : Ea80 71 = _ := (hs80 71 (by decide)).trans h71
  replace hg21 : ∀ i : Nat, i < 21 → Ea80 (21 + 2 * i) = _ := fun i hi => (hs80 (21 + 2 * i) (by omega)).trans (hg21 i hi)
  replace hg22 : ∀ i : Nat, i < 21 → Ea80 (22 + 2 * i) = _ := fun i hi => (hs80 (22 + 2 * i) (by omega)).trans (hg22 i hi)
  replace h69 : Ea80 69 = aR Γ 3 4 (va_up (fun _ => none) 0 (some (ad 70))) := hk80
  replace hF : ∀ j : Nat, j < 0 → Ea80 j = E0 j := fun j hj => (hs80 j (by omega)).trans (hF j hj)
  refine J_iinc (q := 131) X dX9_init_128 rfl (by decide) rfl rfl ?_
  show J l Γ Ω 2 ad 72 71 2298 Ea80 131 [some (.ref (ad 0)), some (.int (jI 1))] []
  refine J_goto (q := 110) X dX9_init_131 (by decide) ?_
  refine J_iload_n (q := 111) X dX9_init_110 rfl rfl ?_
  refine J_iconst (q := 112) X dX9_init_111 rfl ?_
  refine J_icmp_ge (q := 115) (tgt := 134) X dX9_init_112 (by decide) rfl (by omega) (by omega) (fun cq => ?_) (fun cq => ?_)
  case refine_1 => exfalso; omega
  refine J_aload_n (q := 116) X dX9_init_115 rfl rfl ?_
  refine J_get (q := 119) X dX9_init_116 fX9_53 h0 (by decide) rfl rfl ?_
  refine J_iload_n (q := 120) X dX9_init_119 rfl rfl ?_
  refine J_new (q := 123) X tyX4 [.null, .int (jI 0), .int (jI 0), .int (jI 0)] dX9_init_120 ⟨nX9_51, iRX4.1, iRX4.2⟩ clRX4 tyX4_ok (by decide +kernel) (by decide) (by decide) had rfl rfl (fun Ea89 hk89 hs89 => ?_)
  replace h0 : Ea89 0 = _ := (hs89 0 (by decide)).trans h0
  replace h1 : Ea89 1 = _ := (hs89 1 (by decide)).trans h1
  replace h2 : Ea89 2 = _ := (hs89 2 (by decide)).trans h2
  replace h3 : Ea89 3 = _ := (hs89 3 (by decide)).trans h3
  replace h4 : Ea89 4 = _ := (hs89 4 (by decide)).trans h4
  replace h5 : Ea89 5 = _ := (hs89 5 (by decide)).trans h5
  replace h6 : Ea89 6 = _ := (hs89 6 (by decide)).trans h6
  replace h7 : Ea89 7 = _ := (hs89 7 (by decide)).trans h7
  replace h8 : Ea89 8 = _ := (hs89 8 (by decide)).trans h8
  replace h9 : Ea89 9 = _ := (hs89 9 (by decide)).trans h9
  replace h10 : Ea89 10 = _ := (hs89 10 (by decide)).trans h10
  replace h11 : Ea89 11 = _ := (hs89 11 (by decide)).trans h11
  replace h12 : Ea89 12 = _ := (hs89 12 (by decide)).trans h12
  replace h13 : Ea89 13 = _ := (hs89 13 (by decide)).trans h13
  replace h14 : Ea89 14 = _ := (hs89 14 (by decide)).trans h14
  replace h15 : Ea89 15 = _ := (hs89 15 (by decide)).trans h15
  replace h16 : Ea89 16 = _ := (hs89 16 (by decide)).trans h16
  replace h17 : Ea89 17 = _ := (hs89 17 (by decide)).trans h17
  replace h18 : Ea89 18 = _ := (hs89 18 (by decide)).trans h18
  replace h19 : Ea89 19 = _ := (hs89 19 (by decide)).trans h19
  replace h20 : Ea89 20 = _ := (hs89 20 (by decide)).trans h20
  replace h63 : Ea89 63 = _ := (hs89 63 (by decide)).trans h63
  replace h64 : Ea89 64 = _ := (hs89 64 (by decide)).trans h64
  replace h65 : Ea89 65 = _ := (hs89 65 (by decide)).trans h65
  replace h66 : Ea89 66 = _ := (hs89 66 (by decide)).trans h66
  replace h67 : Ea89 67 = _ := (hs89 67 (by decide)).trans h67
  replace h68 : Ea89 68 = _ := (hs89 68 (by decide)).trans h68
  replace h69 : Ea89 69 = _ := (hs89 69 (by decide)).trans h69
  replace h70 : Ea89 70 = _ := (hs89 70 (by decide)).trans h70
  replace h71 : Ea89 71 = _ := (hs89 71 (by decide)).trans h71
  replace hg21 : ∀ i : Nat, i < 21 → Ea89 (21 + 2 * i) = _ := fun i hi => (hs89 (21 + 2 * i) (by omega)).trans (hg21 i hi)
  replace hg22 : ∀ i : Nat, i < 21 → Ea89 (22 + 2 * i) = _ := fun i hi => (hs89 (22 + 2 * i) (by omega)).trans (hg22 i hi)
  have h72 : Ea89 72 = .inr (4, [.null, .int (jI 0), .int (jI 0), .int (jI 0)]) := hk89
  replace hF : ∀ j : Nat, j < 0 → Ea89 j = E0 j := fun j hj => (hs89 j (by omega)).trans (hF j hj)
  show J l Γ Ω 2 ad 73 72 2302 Ea89 123 [some (.ref (ad 0)), some (.int (jI 1))] [.ref (ad 72), .int (jI 1), .ref (ad 69)]
  refine J_dup (q := 124) X dX9_init_123 rfl rfl ?_
  refine jrI (q := 127) X mX9_57 dX9_init_124 (c_X4_init (by decide) h72) had rfl rfl rfl (Nat.le_of_ble_eq_true rfl) ⟨by decide, by decide, by decide, by decide⟩ rfl (fun rv Ea91 hp => ?_)
  obtain ⟨rfl, hk91, hk91b, hs91⟩ := hp
  replace h0 : Ea91 0 = _ := (hs91 0 (by decide) (by decide)).trans h0
  replace h1 : Ea91 1 = _ := (hs91 1 (by decide) (by decide)).trans h1
  replace h2 : Ea91 2 = _ := (hs91 2 (by decide) (by decide)).trans h2
  replace h3 : Ea91 3 = _ := (hs91 3 (by decide) (by decide)).trans h3
  replace h4 : Ea91 4 = _ := (hs91 4 (by decide) (by decide)).trans h4
  replace h5 : Ea91 5 = _ := (hs91 5 (by decide) (by decide)).trans h5
  replace h6 : Ea91 6 = _ := (hs91 6 (by decide) (by decide)).trans h6
  replace h7 : Ea91 7 = _ := (hs91 7 (by decide) (by decide)).trans h7
  replace h8 : Ea91 8 = _ := (hs91 8 (by decide) (by decide)).trans h8
  replace h9 : Ea91 9 = _ := (hs91 9 (by decide) (by decide)).trans h9
  replace h10 : Ea91 10 = _ := (hs91 10 (by decide) (by decide)).trans h10
  replace h11 : Ea91 11 = _ := (hs91 11 (by decide) (by decide)).trans h11
  replace h12 : Ea91 12 = _ := (hs91 12 (by decide) (by decide)).trans h12
  replace h13 : Ea91 13 = _ := (hs91 13 (by decide) (by decide)).trans h13
  replace h14 : Ea91 14 = _ := (hs91 14 (by decide) (by decide)).trans h14
  replace h15 : Ea91 15 = _ := (hs91 15 (by decide) (by decide)).trans h15
  replace h16 : Ea91 16 = _ := (hs91 16 (by decide) (by decide)).trans h16
  replace h17 : Ea91 17 = _ := (hs91 17 (by decide) (by decide)).trans h17
  replace h18 : Ea91 18 = _ := (hs91 18 (by decide) (by decide)).trans h18
  replace h19 : Ea91 19 = _ := (hs91 19 (by decide) (by decide)).trans h19
  replace h20 : Ea91 20 = _ := (hs91 20 (by decide) (by decide)).trans h20
  replace h63 : Ea91 63 = _ := (hs91 63 (by decide) (by decide)).trans h63
  replace h64 : Ea91 64 = _ := (hs91 64 (by decide) (by decide)).trans h64
  replace h65 : Ea91 65 = _ := (hs91 65 (by decide) (by decide)).trans h65
  replace h66 : Ea91 66 = _ := (hs91 66 (by decide) (by decide)).trans h66
  replace h67 : Ea91 67 = _ := (hs91 67 (by decide) (by decide)).trans h67
  replace h68 : Ea91 68 = _ := (hs91 68 (by decide) (by decide)).trans h68
  replace h69 : Ea91 69 = _ := (hs91 69 (by decide) (by decide)).trans h69
  replace h70 : Ea91 70 = _ := (hs91 70 (by decide) (by decide)).trans h70
  replace h71 : Ea91 71 = _ := (hs91 71 (by decide) (by decide)).trans h71
  replace hg21 : ∀ i : Nat, i < 21 → Ea91 (21 + 2 * i) = _ := fun i hi => (hs91 (21 + 2 * i) (by omega) (by omega)).trans (hg21 i hi)
  replace hg22 : ∀ i : Nat, i < 21 → Ea91 (22 + 2 * i) = _ := fun i hi => (hs91 (22 + 2 * i) (by omega) (by omega)).trans (hg22 i hi)
  replace h72 : Ea91 72 = .inr (4, [.ref (ad 73), .int (jI 0), .int (jI 0), .int (jI 0)]) := hk91
  have h73 : Ea91 73 = aI Γ 40 (fun _ => 0) := hk91b
  replace hF : ∀ j : Nat, j < 0 → Ea91 j = E0 j := fun j hj => (hs91 j (by omega) (by omega)).trans (hF j hj)
  show J l Γ Ω 2 ad 74 73 2342 Ea91 127 [some (.ref (ad 0)), some (.int (jI 1))] [.ref (ad 72), .int (jI 1), .ref (ad 69)]
  refine J_aast (q := 128) X dX9_init_127 (Or.inr rfl) h69 (by decide) h72 (by decide) rfl rfl (by decide) (by decide) rfl (fun Ea92 hk92 hs92 => ?_)
  replace h0 : Ea92 0 = _ := (hs92 0 (by decide)).trans h0
  replace h1 : Ea92 1 = _ := (hs92 1 (by decide)).trans h1
  replace h2 : Ea92 2 = _ := (hs92 2 (by decide)).trans h2
  replace h3 : Ea92 3 = _ := (hs92 3 (by decide)).trans h3
  replace h4 : Ea92 4 = _ := (hs92 4 (by decide)).trans h4
  replace h5 : Ea92 5 = _ := (hs92 5 (by decide)).trans h5
  replace h6 : Ea92 6 = _ := (hs92 6 (by decide)).trans h6
  replace h7 : Ea92 7 = _ := (hs92 7 (by decide)).trans h7
  replace h8 : Ea92 8 = _ := (hs92 8 (by decide)).trans h8
  replace h9 : Ea92 9 = _ := (hs92 9 (by decide)).trans h9
  replace h10 : Ea92 10 = _ := (hs92 10 (by decide)).trans h10
  replace h11 : Ea92 11 = _ := (hs92 11 (by decide)).trans h11
  replace h12 : Ea92 12 = _ := (hs92 12 (by decide)).trans h12
  replace h13 : Ea92 13 = _ := (hs92 13 (by decide)).trans h13
  replace h14 : Ea92 14 = _ := (hs92 14 (by decide)).trans h14
  replace h15 : Ea92 15 = _ := (hs92 15 (by decide)).trans h15
  replace h16 : Ea92 16 = _ := (hs92 16 (by decide)).trans h16
  replace h17 : Ea92 17 = _ := (hs92 17 (by decide)).trans h17
  replace h18 : Ea92 18 = _ := (hs92 18 (by decide)).trans h18
  replace h19 : Ea92 19 = _ := (hs92 19 (by decide)).trans h19
  replace h20 : Ea92 20 = _ := (hs92 20 (by decide)).trans h20
  replace h63 : Ea92 63 = _ := (hs92 63 (by decide)).trans h63
  replace h64 : Ea92 64 = _ := (hs92 64 (by decide)).trans h64
  replace h65 : Ea92 65 = _ := (hs92 65 (by decide)).trans h65
  replace h66 : Ea92 66 = _ := (hs92 66 (by decide)).trans h66
  replace h67 : Ea92 67 = _ := (hs92 67 (by decide)).trans h67
  replace h68 : Ea92 68 = _ := (hs92 68 (by decide)).trans h68
  replace h70 : Ea92 70 = _ := (hs92 70 (by decide)).trans h70
  replace h71 : Ea92 71 = _ := (hs92 71 (by decide)).trans h71
  replace h72 : Ea92 72 = _ := (hs92 72 (by decide)).trans h72
  replace h73 : Ea92 73 = _ := (hs92 73 (by decide)).trans h73
  replace hg21 : ∀ i : Nat, i < 21 → Ea92 (21 + 2 * i) = _ := fun i hi => (hs92 (21 + 2 * i) (by omega)).trans (hg21 i hi)
  replace hg22 : ∀ i : Nat, i < 21 → Ea92 (22 + 2 * i) = _ := fun i hi => (hs92 (22 + 2 * i) (by omega)).trans (hg22 i hi)
  replace h69 : Ea92 69 = aR Γ 3 4 (va_up (va_up (fun _ => none) 0 (some (ad 70))) 1 (some (ad 72))) := hk92
  replace hF : ∀ j : Nat, j < 0 → Ea92 j = E0 j := fun j hj => (hs92 j (by omega)).trans (hF j hj)
  refine J_iinc (q := 131) X dX9_init_128 rfl (by decide) rfl rfl ?_
  show J l Γ Ω 2 ad 74 73 2342 Ea92 131 [some (.ref (ad 0)), some (.int (jI 2))] []
  refine J_goto (q := 110) X dX9_init_131 (by decide) ?_
  refine J_iload_n (q := 111) X dX9_init_110 rfl rfl ?_
  refine J_iconst (q := 112) X dX9_init_111 rfl ?_
  refine J_icmp_ge (q := 115) (tgt := 134) X dX9_init_112 (by decide) rfl (by omega) (by omega) (fun cq => ?_) (fun cq => ?_)
  case refine_1 => exfalso; omega
  refine J_aload_n (q := 116) X dX9_init_115 rfl rfl ?_
  refine J_get (q := 119) X dX9_init_116 fX9_53 h0 (by decide) rfl rfl ?_
  refine J_iload_n (q := 120) X dX9_init_119 rfl rfl ?_
  refine J_new (q := 123) X tyX4 [.null, .int (jI 0), .int (jI 0), .int (jI 0)] dX9_init_120 ⟨nX9_51, iRX4.1, iRX4.2⟩ clRX4 tyX4_ok (by decide +kernel) (by decide) (by decide) had rfl rfl (fun Ea101 hk101 hs101 => ?_)
  replace h0 : Ea101 0 = _ := (hs101 0 (by decide)).trans h0
  replace h1 : Ea101 1 = _ := (hs101 1 (by decide)).trans h1
  replace h2 : Ea101 2 = _ := (hs101 2 (by decide)).trans h2
  replace h3 : Ea101 3 = _ := (hs101 3 (by decide)).trans h3
  replace h4 : Ea101 4 = _ := (hs101 4 (by decide)).trans h4
  replace h5 : Ea101 5 = _ := (hs101 5 (by decide)).trans h5
  replace h6 : Ea101 6 = _ := (hs101 6 (by decide)).trans h6
  replace h7 : Ea101 7 = _ := (hs101 7 (by decide)).trans h7
  replace h8 : Ea101 8 = _ := (hs101 8 (by decide)).trans h8
  replace h9 : Ea101 9 = _ := (hs101 9 (by decide)).trans h9
  replace h10 : Ea101 10 = _ := (hs101 10 (by decide)).trans h10
  replace h11 : Ea101 11 = _ := (hs101 11 (by decide)).trans h11
  replace h12 : Ea101 12 = _ := (hs101 12 (by decide)).trans h12
  replace h13 : Ea101 13 = _ := (hs101 13 (by decide)).trans h13
  replace h14 : Ea101 14 = _ := (hs101 14 (by decide)).trans h14
  replace h15 : Ea101 15 = _ := (hs101 15 (by decide)).trans h15
  replace h16 : Ea101 16 = _ := (hs101 16 (by decide)).trans h16
  replace h17 : Ea101 17 = _ := (hs101 17 (by decide)).trans h17
  replace h18 : Ea101 18 = _ := (hs101 18 (by decide)).trans h18
  replace h19 : Ea101 19 = _ := (hs101 19 (by decide)).trans h19
  replace h20 : Ea101 20 = _ := (hs101 20 (by decide)).trans h20
  replace h63 : Ea101 63 = _ := (hs101 63 (by decide)).trans h63
  replace h64 : Ea101 64 = _ := (hs101 64 (by decide)).trans h64
  replace h65 : Ea101 65 = _ := (hs101 65 (by decide)).trans h65
  replace h66 : Ea101 66 = _ := (hs101 66 (by decide)).trans h66
  replace h67 : Ea101 67 = _ := (hs101 67 (by decide)).trans h67
  replace h68 : Ea101 68 = _ := (hs101 68 (by decide)).trans h68
  replace h69 : Ea101 69 = _ := (hs101 69 (by decide)).trans h69
  replace h70 : Ea101 70 = _ := (hs101 70 (by decide)).trans h70
  replace h71 : Ea101 71 = _ := (hs101 71 (by decide)).trans h71
  replace h72 : Ea101 72 = _ := (hs101 72 (by decide)).trans h72
  replace h73 : Ea101 73 = _ := (hs101 73 (by decide)).trans h73
  replace hg21 : ∀ i : Nat, i < 21 → Ea101 (21 + 2 * i) = _ := fun i hi => (hs101 (21 + 2 * i) (by omega)).trans (hg21 i hi)
  replace hg22 : ∀ i : Nat, i < 21 → Ea101 (22 + 2 * i) = _ := fun i hi => (hs101 (22 + 2 * i) (by omega)).trans (hg22 i hi)
  have h74 : Ea101 74 = .inr (4, [.null, .int (jI 0), .int (jI 0), .int (jI 0)]) := hk101
  replace hF : ∀ j : Nat, j < 0 → Ea101 j = E0 j := fun j hj => (hs101 j (by omega)).trans (hF j hj)
  show J l Γ Ω 2 ad 75 74 2346 Ea101 123 [some (.ref (ad 0)), some (.int (jI 2))] [.ref (ad 74), .int (jI 2), .ref (ad 69)]
  refine J_dup (q := 124) X dX9_init_123 rfl rfl ?_
  refine jrI (q := 127) X mX9_57 dX9_init_124 (c_X4_init (by decide) h74) had rfl rfl rfl (Nat.le_of_ble_eq_true rfl) ⟨by decide, by decide, by decide, by decide⟩ rfl (fun rv Ea103 hp => ?_)
  obtain ⟨rfl, hk103, hk103b, hs103⟩ := hp
  replace h0 : Ea103 0 = _ := (hs103 0 (by decide) (by decide)).trans h0
  replace h1 : Ea103 1 = _ := (hs103 1 (by decide) (by decide)).trans h1
  replace h2 : Ea103 2 = _ := (hs103 2 (by decide) (by decide)).trans h2
  replace h3 : Ea103 3 = _ := (hs103 3 (by decide) (by decide)).trans h3
  replace h4 : Ea103 4 = _ := (hs103 4 (by decide) (by decide)).trans h4
  replace h5 : Ea103 5 = _ := (hs103 5 (by decide) (by decide)).trans h5
  replace h6 : Ea103 6 = _ := (hs103 6 (by decide) (by decide)).trans h6
  replace h7 : Ea103 7 = _ := (hs103 7 (by decide) (by decide)).trans h7
  replace h8 : Ea103 8 = _ := (hs103 8 (by decide) (by decide)).trans h8
  replace h9 : Ea103 9 = _ := (hs103 9 (by decide) (by decide)).trans h9
  replace h10 : Ea103 10 = _ := (hs103 10 (by decide) (by decide)).trans h10
  replace h11 : Ea103 11 = _ := (hs103 11 (by decide) (by decide)).trans h11
  replace h12 : Ea103 12 = _ := (hs103 12 (by decide) (by decide)).trans h12
  replace h13 : Ea103 13 = _ := (hs103 13 (by decide) (by decide)).trans h13
  replace h14 : Ea103 14 = _ := (hs103 14 (by decide) (by decide)).trans h14
  replace h15 : Ea103 15 = _ := (hs103 15 (by decide) (by decide)).trans h15
  replace h16 : Ea103 16 = _ := (hs103 16 (by decide) (by decide)).trans h16
  replace h17 : Ea103 17 = _ := (hs103 17 (by decide) (by decide)).trans h17
  replace h18 : Ea103 18 = _ := (hs103 18 (by decide) (by decide)).trans h18
  replace h19 : Ea103 19 = _ := (hs103 19 (by decide) (by decide)).trans h19
  replace h20 : Ea103 20 = _ := (hs103 20 (by decide) (by decide)).trans h20
  replace h63 : Ea103 63 = _ := (hs103 63 (by decide) (by decide)).trans h63
  replace h64 : Ea103 64 = _ := (hs103 64 (by decide) (by decide)).trans h64
  replace h65 : Ea103 65 = _ := (hs103 65 (by decide) (by decide)).trans h65
  replace h66 : Ea103 66 = _ := (hs103 66 (by decide) (by decide)).trans h66
  replace h67 : Ea103 67 = _ := (hs103 67 (by decide) (by decide)).trans h67
  replace h68 : Ea103 68 = _ := (hs103 68 (by decide) (by decide)).trans h68
  replace h69 : Ea103 69 = _ := (hs103 69 (by decide) (by decide)).trans h69
  replace h70 : Ea103 70 = _ := (hs103 70 (by decide) (by decide)).trans h70
  replace h71 : Ea103 71 = _ := (hs103 71 (by decide) (by decide)).trans h71
  replace h72 : Ea103 72 = _ := (hs103 72 (by decide) (by decide)).trans h72
  replace h73 : Ea103 73 = _ := (hs103 73 (by decide) (by decide)).trans h73
  replace hg21 : ∀ i : Nat, i < 21 → Ea103 (21 + 2 * i) = _ := fun i hi => (hs103 (21 + 2 * i) (by omega) (by omega)).trans (hg21 i hi)
  replace hg22 : ∀ i : Nat, i < 21 → Ea103 (22 + 2 * i) = _ := fun i hi => (hs103 (22 + 2 * i) (by omega) (by omega)).trans (hg22 i hi)
  replace h74 : Ea103 74 = .inr (4, [.ref (ad 75), .int (jI 0), .int (jI 0), .int (jI 0)]) := hk103
  have h75 : Ea103 75 = aI Γ 40 (fun _ => 0) := hk103b
  replace hF : ∀ j : Nat, j < 0 → Ea103 j = E0 j := fun j hj => (hs103 j (by omega) (by omega)).trans (hF j hj)
  show J l Γ Ω 2 ad 76 75 2386 Ea103 127 [some (.ref (ad 0)), some (.int (jI 2))] [.ref (ad 74), .int (jI 2), .ref (ad 69)]
  refine J_aast (q := 128) X dX9_init_127 (Or.inr rfl) h69 (by decide) h74 (by decide) rfl rfl (by decide) (by decide) rfl (fun Ea104 hk104 hs104 => ?_)
  replace h0 : Ea104 0 = _ := (hs104 0 (by decide)).trans h0
  replace h1 : Ea104 1 = _ := (hs104 1 (by decide)).trans h1
  replace h2 : Ea104 2 = _ := (hs104 2 (by decide)).trans h2
  replace h3 : Ea104 3 = _ := (hs104 3 (by decide)).trans h3
  replace h4 : Ea104 4 = _ := (hs104 4 (by decide)).trans h4
  replace h5 : Ea104 5 = _ := (hs104 5 (by decide)).trans h5
  replace h6 : Ea104 6 = _ := (hs104 6 (by decide)).trans h6
  replace h7 : Ea104 7 = _ := (hs104 7 (by decide)).trans h7
  replace h8 : Ea104 8 = _ := (hs104 8 (by decide)).trans h8
  replace h9 : Ea104 9 = _ := (hs104 9 (by decide)).trans h9
  replace h10 : Ea104 10 = _ := (hs104 10 (by decide)).trans h10
  replace h11 : Ea104 11 = _ := (hs104 11 (by decide)).trans h11
  replace h12 : Ea104 12 = _ := (hs104 12 (by decide)).trans h12
  replace h13 : Ea104 13 = _ := (hs104 13 (by decide)).trans h13
  replace h14 : Ea104 14 = _ := (hs104 14 (by decide)).trans h14
  replace h15 : Ea104 15 = _ := (hs104 15 (by decide)).trans h15
  replace h16 : Ea104 16 = _ := (hs104 16 (by decide)).trans h16
  replace h17 : Ea104 17 = _ := (hs104 17 (by decide)).trans h17
  replace h18 : Ea104 18 = _ := (hs104 18 (by decide)).trans h18
  replace h19 : Ea104 19 = _ := (hs104 19 (by decide)).trans h19
  replace h20 : Ea104 20 = _ := (hs104 20 (by decide)).trans h20
  replace h63 : Ea104 63 = _ := (hs104 63 (by decide)).trans h63
  replace h64 : Ea104 64 = _ := (hs104 64 (by decide)).trans h64
  replace h65 : Ea104 65 = _ := (hs104 65 (by decide)).trans h65
  replace h66 : Ea104 66 = _ := (hs104 66 (by decide)).trans h66
  replace h67 : Ea104 67 = _ := (hs104 67 (by decide)).trans h67
  replace h68 : Ea104 68 = _ := (hs104 68 (by decide)).trans h68
  replace h70 : Ea104 70 = _ := (hs104 70 (by decide)).trans h70
  replace h71 : Ea104 71 = _ := (hs104 71 (by decide)).trans h71
  replace h72 : Ea104 72 = _ := (hs104 72 (by decide)).trans h72
  replace h73 : Ea104 73 = _ := (hs104 73 (by decide)).trans h73
  replace h74 : Ea104 74 = _ := (hs104 74 (by decide)).trans h74
  replace h75 : Ea104 75 = _ := (hs104 75 (by decide)).trans h75
  replace hg21 : ∀ i : Nat, i < 21 → Ea104 (21 + 2 * i) = _ := fun i hi => (hs104 (21 + 2 * i) (by omega)).trans (hg21 i hi)
  replace hg22 : ∀ i : Nat, i < 21 → Ea104 (22 + 2 * i) = _ := fun i hi => (hs104 (22 + 2 * i) (by omega)).trans (hg22 i hi)
  replace h69 : Ea104 69 = aR Γ 3 4 (va_up (va_up (va_up (fun _ => none) 0 (some (ad 70))) 1 (some (ad 72))) 2 (some (ad 74))) := hk104
  replace hF : ∀ j : Nat, j < 0 → Ea104 j = E0 j := fun j hj => (hs104 j (by omega)).trans (hF j hj)
  refine J_iinc (q := 131) X dX9_init_128 rfl (by decide) rfl rfl ?_
  show J l Γ Ω 2 ad 76 75 2386 Ea104 131 [some (.ref (ad 0)), some (.int (jI 3))] []
  refine J_goto (q := 110) X dX9_init_131 (by decide) ?_
  refine J_iload_n (q := 111) X dX9_init_110 rfl rfl ?_
  refine J_iconst (q := 112) X dX9_init_111 rfl ?_
  refine J_icmp_ge (q := 115) (tgt := 134) X dX9_init_112 (by decide) rfl (by omega) (by omega) (fun cq => ?_) (fun cq => ?_)
  case refine_1 => exfalso; omega
  refine J_aload_n (q := 116) X dX9_init_115 rfl rfl ?_
  refine J_get (q := 119) X dX9_init_116 fX9_53 h0 (by decide) rfl rfl ?_
  refine J_iload_n (q := 120) X dX9_init_119 rfl rfl ?_
  refine J_new (q := 123) X tyX4 [.null, .int (jI 0), .int (jI 0), .int (jI 0)] dX9_init_120 ⟨nX9_51, iRX4.1, iRX4.2⟩ clRX4 tyX4_ok (by decide +kernel) (by decide) (by decide) had rfl rfl (fun Ea113 hk113 hs113 => ?_)
  replace h0 : Ea113 0 = _ := (hs113 0 (by decide)).trans h0
  replace h1 : Ea113 1 = _ := (hs113 1 (by decide)).trans h1
  replace h2 : Ea113 2 = _ := (hs113 2 (by decide)).trans h2
  replace h3 : Ea113 3 = _ := (hs113 3 (by decide)).trans h3
  replace h4 : Ea113 4 = _ := (hs113 4 (by decide)).trans h4
  replace h5 : Ea113 5 = _ := (hs113 5 (by decide)).trans h5
  replace h6 : Ea113 6 = _ := (hs113 6 (by decide)).trans h6
  replace h7 : Ea113 7 = _ := (hs113 7 (by decide)).trans h7
  replace h8 : Ea113 8 = _ := (hs113 8 (by decide)).trans h8
  replace h9 : Ea113 9 = _ := (hs113 9 (by decide)).trans h9
  replace h10 : Ea113 10 = _ := (hs113 10 (by decide)).trans h10
  replace h11 : Ea113 11 = _ := (hs113 11 (by decide)).trans h11
  replace h12 : Ea113 12 = _ := (hs113 12 (by decide)).trans h12
  replace h13 : Ea113 13 = _ := (hs113 13 (by decide)).trans h13
  replace h14 : Ea113 14 = _ := (hs113 14 (by decide)).trans h14
  replace h15 : Ea113 15 = _ := (hs113 15 (by decide)).trans h15
  replace h16 : Ea113 16 = _ := (hs113 16 (by decide)).trans h16
  replace h17 : Ea113 17 = _ := (hs113 17 (by decide)).trans h17
  replace h18 : Ea113 18 = _ := (hs113 18 (by decide)).trans h18
  replace h19 : Ea113 19 = _ := (hs113 19 (by decide)).trans h19
  replace h20 : Ea113 20 = _ := (hs113 20 (by decide)).trans h20
  replace h63 : Ea113 63 = _ := (hs113 63 (by decide)).trans h63
  replace h64 : Ea113 64 = _ := (hs113 64 (by decide)).trans h64
  replace h65 : Ea113 65 = _ := (hs113 65 (by decide)).trans h65
  replace h66 : Ea113 66 = _ := (hs113 66 (by decide)).trans h66
  replace h67 : Ea113 67 = _ := (hs113 67 (by decide)).trans h67
  replace h68 : Ea113 68 = _ := (hs113 68 (by decide)).trans h68
  replace h69 : Ea113 69 = _ := (hs113 69 (by decide)).trans h69
  replace h70 : Ea113 70 = _ := (hs113 70 (by decide)).trans h70
  replace h71 : Ea113 71 = _ := (hs113 71 (by decide)).trans h71
  replace h72 : Ea113 72 = _ := (hs113 72 (by decide)).trans h72
  replace h73 : Ea113 73 = _ := (hs113 73 (by decide)).trans h73
  replace h74 : Ea113 74 = _ := (hs113 74 (by decide)).trans h74
  replace h75 : Ea113 75 = _ := (hs113 75 (by decide)).trans h75
  replace hg21 : ∀ i : Nat, i < 21 → Ea113 (21 + 2 * i) = _ := fun i hi => (hs113 (21 + 2 * i) (by omega)).trans (hg21 i hi)
  replace hg22 : ∀ i : Nat, i < 21 → Ea113 (22 + 2 * i) = _ := fun i hi => (hs113 (22 + 2 * i) (by omega)).trans (hg22 i hi)
  have h76 : Ea113 76 = .inr (4, [.null, .int (jI 0), .int (jI 0), .int (jI 0)]) := hk113
  replace hF : ∀ j : Nat, j < 0 → Ea113 j = E0 j := fun j hj => (hs113 j (by omega)).trans (hF j hj)
  show J l Γ Ω 2 ad 77 76 2390 Ea113 123 [some (.ref (ad 0)), some (.int (jI 3))] [.ref (ad 76), .int (jI 3), .ref (ad 69)]
  refine J_dup (q := 124) X dX9_init_123 rfl rfl ?_
  refine jrI (q := 127) X mX9_57 dX9_init_124 (c_X4_init (by decide) h76) had rfl rfl rfl (Nat.le_of_ble_eq_true rfl) ⟨by decide, by decide, by decide, by decide⟩ rfl (fun rv Ea115 hp => ?_)
  obtain ⟨rfl, hk115, hk115b, hs115⟩ := hp
  replace h0 : Ea115 0 = _ := (hs115 0 (by decide) (by decide)).trans h0
  replace h1 : Ea115 1 = _ := (hs115 1 (by decide) (by decide)).trans h1
  replace h2 : Ea115 2 = _ := (hs115 2 (by decide) (by decide)).trans h2
  replace h3 : Ea115 3 = _ := (hs115 3 (by decide) (by decide)).trans h3
  replace h4 : Ea115 4 = _ := (hs115 4 (by decide) (by decide)).trans h4
  replace h5 : Ea115 5 = _ := (hs115 5 (by decide) (by decide)).trans h5
  replace h6 : Ea115 6 = _ := (hs115 6 (by decide) (by decide)).trans h6
  replace h7 : Ea115 7 = _ := (hs115 7 (by decide) (by decide)).trans h7
  replace h8 : Ea115 8 = _ := (hs115 8 (by decide) (by decide)).trans h8
  replace h9 : Ea115 9 = _ := (hs115 9 (by decide) (by decide)).trans h9
  replace h10 : Ea115 10 = _ := (hs115 10 (by decide) (by decide)).trans h10
  replace h11 : Ea115 11 = _ := (hs115 11 (by decide) (by decide)).trans h11
  replace h12 : Ea115 12 = _ := (hs115 12 (by decide) (by decide)).trans h12
  replace h13 : Ea115 13 = _ := (hs115 13 (by decide) (by decide)).trans h13
  replace h14 : Ea115 14 = _ := (hs115 14 (by decide) (by decide)).trans h14
  replace h15 : Ea115 15 = _ := (hs115 15 (by decide) (by decide)).trans h15
  replace h16 : Ea115 16 = _ := (hs115 16 (by decide) (by decide)).trans h16
  replace h17 : Ea115 17 = _ := (hs115 17 (by decide) (by decide)).trans h17
  replace h18 : Ea115 18 = _ := (hs115 18 (by decide) (by decide)).trans h18
  replace h19 : Ea115 19 = _ := (hs115 19 (by decide) (by decide)).trans h19
  replace h20 : Ea115 20 = _ := (hs115 20 (by decide) (by decide)).trans h20
  replace h63 : Ea115 63 = _ := (hs115 63 (by decide) (by decide)).trans h63
  replace h64 : Ea115 64 = _ := (hs115 64 (by decide) (by decide)).trans h64
  replace h65 : Ea115 65 = _ := (hs115 65 (by decide) (by decide)).trans h65
  replace h66 : Ea115 66 = _ := (hs115 66 (by decide) (by decide)).trans h66
  replace h67 : Ea115 67 = _ := (hs115 67 (by decide) (by decide)).trans h67
  replace h68 : Ea115 68 = _ := (hs115 68 (by decide) (by decide)).trans h68
  replace h69 : Ea115 69 = _ := (hs115 69 (by decide) (by decide)).trans h69
  replace h70 : Ea115 70 = _ := (hs115 70 (by decide) (by decide)).trans h70
  replace h71 : Ea115 71 = _ := (hs115 71 (by decide) (by decide)).trans h71
  replace h72 : Ea115 72 = _ := (hs115 72 (by decide) (by decide)).trans h72
  replace h73 : Ea115 73 = _ := (hs115 73 (by decide) (by decide)).trans h73
  replace h74 : Ea115 74 = _ := (hs115 74 (by decide) (by decide)).trans h74
  replace h75 : Ea115 75 = _ := (hs115 75 (by decide) (by decide)).trans h75
  replace hg21 : ∀ i : Nat, i < 21 → Ea115 (21 + 2 * i) = _ := fun i hi => (hs115 (21 + 2 * i) (by omega) (by omega)).trans (hg21 i hi)
  replace hg22 : ∀ i : Nat, i < 21 → Ea115 (22 + 2 * i) = _ := fun i hi => (hs115 (22 + 2 * i) (by omega) (by omega)).trans (hg22 i hi)
  replace h76 : Ea115 76 = .inr (4, [.ref (ad 77), .int (jI 0), .int (jI 0), .int (jI 0)]) := hk115
  have h77 : Ea115 77 = aI Γ 40 (fun _ => 0) := hk115b
  replace hF : ∀ j : Nat, j < 0 → Ea115 j = E0 j := fun j hj => (hs115 j (by omega) (by omega)).trans (hF j hj)
  show J l Γ Ω 2 ad 78 77 2430 Ea115 127 [some (.ref (ad 0)), some (.int (jI 3))] [.ref (ad 76), .int (jI 3), .ref (ad 69)]
  refine J_aast (q := 128) X dX9_init_127 (Or.inr rfl) h69 (by decide) h76 (by decide) rfl rfl (by decide) (by decide) rfl (fun Ea116 hk116 hs116 => ?_)
  replace h0 : Ea116 0 = _ := (hs116 0 (by decide)).trans h0
  replace h1 : Ea116 1 = _ := (hs116 1 (by decide)).trans h1
  replace h2 : Ea116 2 = _ := (hs116 2 (by decide)).trans h2
  replace h3 : Ea116 3 = _ := (hs116 3 (by decide)).trans h3
  replace h4 : Ea116 4 = _ := (hs116 4 (by decide)).trans h4
  replace h5 : Ea116 5 = _ := (hs116 5 (by decide)).trans h5
  replace h6 : Ea116 6 = _ := (hs116 6 (by decide)).trans h6
  replace h7 : Ea116 7 = _ := (hs116 7 (by decide)).trans h7
  replace h8 : Ea116 8 = _ := (hs116 8 (by decide)).trans h8
  replace h9 : Ea116 9 = _ := (hs116 9 (by decide)).trans h9
  replace h10 : Ea116 10 = _ := (hs116 10 (by decide)).trans h10
  replace h11 : Ea116 11 = _ := (hs116 11 (by decide)).trans h11
  replace h12 : Ea116 12 = _ := (hs116 12 (by decide)).trans h12
  replace h13 : Ea116 13 = _ := (hs116 13 (by decide)).trans h13
  replace h14 : Ea116 14 = _ := (hs116 14 (by decide)).trans h14
  replace h15 : Ea116 15 = _ := (hs116 15 (by decide)).trans h15
  replace h16 : Ea116 16 = _ := (hs116 16 (by decide)).trans h16
  replace h17 : Ea116 17 = _ := (hs116 17 (by decide)).trans h17
  replace h18 : Ea116 18 = _ := (hs116 18 (by decide)).trans h18
  replace h19 : Ea116 19 = _ := (hs116 19 (by decide)).trans h19
  replace h20 : Ea116 20 = _ := (hs116 20 (by decide)).trans h20
  replace h63 : Ea116 63 = _ := (hs116 63 (by decide)).trans h63
  replace h64 : Ea116 64 = _ := (hs116 64 (by decide)).trans h64
  replace h65 : Ea116 65 = _ := (hs116 65 (by decide)).trans h65
  replace h66 : Ea116 66 = _ := (hs116 66 (by decide)).trans h66
  replace h67 : Ea116 67 = _ := (hs116 67 (by decide)).trans h67
  replace h68 : Ea116 68 = _ := (hs116 68 (by decide)).trans h68
  replace h70 : Ea116 70 = _ := (hs116 70 (by decide)).trans h70
  replace h71 : Ea116 71 = _ := (hs116 71 (by decide)).trans h71
  replace h72 : Ea116 72 = _ := (hs116 72 (by decide)).trans h72
  replace h73 : Ea116 73 = _ := (hs116 73 (by decide)).trans h73
  replace h74 : Ea116 74 = _ := (hs116 74 (by decide)).trans h74
  replace h75 : Ea116 75 = _ := (hs116 75 (by decide)).trans h75
  replace h76 : Ea116 76 = _ := (hs116 76 (by decide)).trans h76
  replace h77 : Ea116 77 = _ := (hs116 77 (by decide)).trans h77
  replace hg21 : ∀ i : Nat, i < 21 → Ea116 (21 + 2 * i) = _ := fun i hi => (hs116 (21 + 2 * i) (by omega)).trans (hg21 i hi)
  replace hg22 : ∀ i : Nat, i < 21 → Ea116 (22 + 2 * i) = _ := fun i hi => (hs116 (22 + 2 * i) (by omega)).trans (hg22 i hi)
  replace h69 : Ea116 69 = aR Γ 3 4 (va_up (va_up (va_up (va_up (fun _ => none) 0 (some (ad 70))) 1 (some (ad 72))) 2 (some (ad 74))) 3 (some (ad 76))) := hk116
  replace hF : ∀ j : Nat, j < 0 → Ea116 j = E0 j := fun j hj => (hs116 j (by omega)).trans (hF j hj)
  refine J_iinc (q := 131) X dX9_init_128 rfl (by decide) rfl rfl ?_
  show J l Γ Ω 2 ad 78 77 2430 Ea116 131 [some (.ref (ad 0)), some (.int (jI 4))] []
  refine J_goto (q := 110) X dX9_init_131 (by decide) ?_
  refine J_iload_n (q := 111) X dX9_init_110 rfl rfl ?_
  refine J_iconst (q := 112) X dX9_init_111 rfl ?_
  refine J_icmp_ge (q := 115) (tgt := 134) X dX9_init_112 (by decide) rfl (by omega) (by omega) (fun cq => ?_) (fun cq => ?_)
  case refine_2 => exfalso; omega
  refine J_extR (f' := fun i => some (ad (64 + 2 * i))) h63 (by decide) (fun j hj => by rcases (show j = 0 ∨ j = 1 by omega) with rfl | rfl <;> rfl) (fun Ex1 hkx1 hsx1 => ?_)
  replace h0 : Ex1 0 = _ := (hsx1 0 (by decide)).trans h0
  replace h1 : Ex1 1 = _ := (hsx1 1 (by decide)).trans h1
  replace h2 : Ex1 2 = _ := (hsx1 2 (by decide)).trans h2
  replace h3 : Ex1 3 = _ := (hsx1 3 (by decide)).trans h3
  replace h4 : Ex1 4 = _ := (hsx1 4 (by decide)).trans h4
  replace h5 : Ex1 5 = _ := (hsx1 5 (by decide)).trans h5
  replace h6 : Ex1 6 = _ := (hsx1 6 (by decide)).trans h6
  replace h7 : Ex1 7 = _ := (hsx1 7 (by decide)).trans h7
  replace h8 : Ex1 8 = _ := (hsx1 8 (by decide)).trans h8
  replace h9 : Ex1 9 = _ := (hsx1 9 (by decide)).trans h9
  replace h10 : Ex1 10 = _ := (hsx1 10 (by decide)).trans h10
  replace h11 : Ex1 11 = _ := (hsx1 11 (by decide)).trans h11
  replace h12 : Ex1 12 = _ := (hsx1 12 (by decide)).trans h12
  replace h13 : Ex1 13 = _ := (hsx1 13 (by decide)).trans h13
  replace h14 : Ex1 14 = _ := (hsx1 14 (by decide)).trans h14
  replace h15 : Ex1 15 = _ := (hsx1 15 (by decide)).trans h15
  replace h16 : Ex1 16 = _ := (hsx1 16 (by decide)).trans h16
  replace h17 : Ex1 17 = _ := (hsx1 17 (by decide)).trans h17
  replace h18 : Ex1 18 = _ := (hsx1 18 (by decide)).trans h18
  replace h19 : Ex1 19 = _ := (hsx1 19 (by decide)).trans h19
  replace h20 : Ex1 20 = _ := (hsx1 20 (by decide)).trans h20
  replace h64 : Ex1 64 = _ := (hsx1 64 (by decide)).trans h64
  replace h65 : Ex1 65 = _ := (hsx1 65 (by decide)).trans h65
  replace h66 : Ex1 66 = _ := (hsx1 66 (by decide)).trans h66
  replace h67 : Ex1 67 = _ := (hsx1 67 (by decide)).trans h67
  replace h68 : Ex1 68 = _ := (hsx1 68 (by decide)).trans h68
  replace h69 : Ex1 69 = _ := (hsx1 69 (by decide)).trans h69
  replace h70 : Ex1 70 = _ := (hsx1 70 (by decide)).trans h70
  replace h71 : Ex1 71 = _ := (hsx1 71 (by decide)).trans h71
  replace h72 : Ex1 72 = _ := (hsx1 72 (by decide)).trans h72
  replace h73 : Ex1 73 = _ := (hsx1 73 (by decide)).trans h73
  replace h74 : Ex1 74 = _ := (hsx1 74 (by decide)).trans h74
  replace h75 : Ex1 75 = _ := (hsx1 75 (by decide)).trans h75
  replace h76 : Ex1 76 = _ := (hsx1 76 (by decide)).trans h76
  replace h77 : Ex1 77 = _ := (hsx1 77 (by decide)).trans h77
  replace hg21 : ∀ i : Nat, i < 21 → Ex1 (21 + 2 * i) = _ := fun i hi => (hsx1 (21 + 2 * i) (by omega)).trans (hg21 i hi)
  replace hg22 : ∀ i : Nat, i < 21 → Ex1 (22 + 2 * i) = _ := fun i hi => (hsx1 (22 + 2 * i) (by omega)).trans (hg22 i hi)
  replace h63 : Ex1 63 = aR Γ 2 2 (fun i => some (ad (64 + 2 * i))) := hkx1
  refine J_extR (f' := fun i => some (ad (70 + 2 * i))) h69 (by decide) (fun j hj => by rcases (show j = 0 ∨ j = 1 ∨ j = 2 ∨ j = 3 by omega) with rfl | rfl | rfl | rfl <;> rfl) (fun Ex2 hkx2 hsx2 => ?_)
  replace h0 : Ex2 0 = _ := (hsx2 0 (by decide)).trans h0
  replace h1 : Ex2 1 = _ := (hsx2 1 (by decide)).trans h1
  replace h2 : Ex2 2 = _ := (hsx2 2 (by decide)).trans h2
  replace h3 : Ex2 3 = _ := (hsx2 3 (by decide)).trans h3
  replace h4 : Ex2 4 = _ := (hsx2 4 (by decide)).trans h4
  replace h5 : Ex2 5 = _ := (hsx2 5 (by decide)).trans h5
  replace h6 : Ex2 6 = _ := (hsx2 6 (by decide)).trans h6
  replace h7 : Ex2 7 = _ := (hsx2 7 (by decide)).trans h7
  replace h8 : Ex2 8 = _ := (hsx2 8 (by decide)).trans h8
  replace h9 : Ex2 9 = _ := (hsx2 9 (by decide)).trans h9
  replace h10 : Ex2 10 = _ := (hsx2 10 (by decide)).trans h10
  replace h11 : Ex2 11 = _ := (hsx2 11 (by decide)).trans h11
  replace h12 : Ex2 12 = _ := (hsx2 12 (by decide)).trans h12
  replace h13 : Ex2 13 = _ := (hsx2 13 (by decide)).trans h13
  replace h14 : Ex2 14 = _ := (hsx2 14 (by decide)).trans h14
  replace h15 : Ex2 15 = _ := (hsx2 15 (by decide)).trans h15
  replace h16 : Ex2 16 = _ := (hsx2 16 (by decide)).trans h16
  replace h17 : Ex2 17 = _ := (hsx2 17 (by decide)).trans h17
  replace h18 : Ex2 18 = _ := (hsx2 18 (by decide)).trans h18
  replace h19 : Ex2 19 = _ := (hsx2 19 (by decide)).trans h19
  replace h20 : Ex2 20 = _ := (hsx2 20 (by decide)).trans h20
  replace h63 : Ex2 63 = _ := (hsx2 63 (by decide)).trans h63
  replace h64 : Ex2 64 = _ := (hsx2 64 (by decide)).trans h64
  replace h65 : Ex2 65 = _ := (hsx2 65 (by decide)).trans h65
  replace h66 : Ex2 66 = _ := (hsx2 66 (by decide)).trans h66
  replace h67 : Ex2 67 = _ := (hsx2 67 (by decide)).trans h67
  replace h68 : Ex2 68 = _ := (hsx2 68 (by decide)).trans h68
  replace h70 : Ex2 70 = _ := (hsx2 70 (by decide)).trans h70
  replace h71 : Ex2 71 = _ := (hsx2 71 (by decide)).trans h71
  replace h72 : Ex2 72 = _ := (hsx2 72 (by decide)).trans h72
  replace h73 : Ex2 73 = _ := (hsx2 73 (by decide)).trans h73
  replace h74 : Ex2 74 = _ := (hsx2 74 (by decide)).trans h74
  replace h75 : Ex2 75 = _ := (hsx2 75 (by decide)).trans h75
  replace h76 : Ex2 76 = _ := (hsx2 76 (by decide)).trans h76
  replace h77 : Ex2 77 = _ := (hsx2 77 (by decide)).trans h77
  replace hg21 : ∀ i : Nat, i < 21 → Ex2 (21 + 2 * i) = _ := fun i hi => (hsx2 (21 + 2 * i) (by omega)).trans (hg21 i hi)
  replace hg22 : ∀ i : Nat, i < 21 → Ex2 (22 + 2 * i) = _ := fun i hi => (hsx2 (22 + 2 * i) (by omega)).trans (hg22 i hi)
  replace h69 : Ex2 69 = aR Γ 3 4 (fun i => some (ad (70 + 2 * i))) := hkx2
  refine J_vret X R dX9_init_134 ?_
  exact ⟨rfl, ⟨0, 0, 0, 0, 0, 0, 0, 0, 0, fun _ => 0, fun _ => 0, fun _ => 0, fun _ => 0, fun _ => 0, fun _ => 0, fun _ => 0, fun _ => 0, fun _ => 0, h0, h1, h2, h3, h4, h5, h6, h7, h8, h9, h10, h11, h12, h13, h14, h15, h16, h17, h18, h19, h20, hg21, hg22, h63, fun i hi => by rcases (show i = 0 ∨ i = 1 by omega) with rfl | rfl; exact h64; exact h66, fun i hi => by rcases (show i = 0 ∨ i = 1 by omega) with rfl | rfl; exact h65; exact h67, h68, h69, fun i hi => by rcases (show i = 0 ∨ i = 1 ∨ i = 2 ∨ i = 3 by omega) with rfl | rfl | rfl | rfl; exact h70; exact h72; exact h74; exact h76, fun i hi => by rcases (show i = 0 ∨ i = 1 ∨ i = 2 ∨ i = 3 by omega) with rfl | rfl | rfl | rfl; exact h71; exact h73; exact h75; exact h77, by decide, Or.inl rfl, SV_0⟩, KV_0⟩
  
set_option maxRecDepth 100000 in
set_option maxHeartbeats 4000000 in
theorem c_X10_initI {l : Launch} {Γ : JG} {ad : Nat → Nat} {E : Nat → va_E} (h78 : E 78 = .inr (9, [.null, .null, .int (jI 0), .int (jI 0), .int (jI 0), .int (jI 0), .int (jI 0), .int (jI 0), .int (jI 0), .int (jI 0), .int (jI 0), .int (jI 0), .int (jI 0), .int (jI 0), .null, .null, .null, .null, .null, .null, .null, .null, .null, .int (jI 0), .int (jI 0), .null, .null, .null, .null, .null, .int (jI 0)])) : JMA l Γ yX10_init cX10_init 1 none 1 20 16 3452 ad 79 E [.ref (ad 78)] (pV (fun E' => MI Γ ad E' KS0 ∧ ∀ j : Nat, j < 78 → E' j = E j)) := by
  refine JMA_post (c_X10_init h78) (fun rv E' hh => ?_)
  obtain ⟨hr, k78, k79, k80, k81, k82, k83, k84, k85, k86, k87, k88, k89, k90, k91, k92, k93, k94, hF⟩ := hh
  have e82 : (iu (iu (iu (iu (fun _ => 0) 0 0) 1 3) 2 6) 3 10) = enF := by
    funext j
    show (if _ then _ else (if _ then _ else (if _ then _ else (if _ then _ else _)))) = (if _ then _ else (if _ then _ else (if _ then _ else (if _ then _ else _))))
    repeat' split
    all_goals first | rfl | (exfalso; omega)
  have e83 : (iu (iu (iu (iu (iu (iu (iu (iu (iu (iu (fun _ => 0) 0 114) 1 111) 2 119) 3 114) 4 101) 5 112) 6 109) 7 97) 8 114) 9 107) = leF := by
    funext j
    simp only [iu, leF]
    repeat' split
    all_goals first | rfl | (exfalso; omega)
  have e91 : (iu (iu (fun _ => 0) 0 0) 1 0) = fun _ => 0 := by
    funext j
    simp only [iu]
    repeat' split
    all_goals rfl
  rw [e82] at k82
  rw [e83] at k83
  rw [e91] at k91
  refine ⟨hr, ⟨0, 0, 0, 0, 0, 0, 0, 0, 0, 0, _, _, _, _, _, _, _, _, _, _, _, _, k78, k79, k80, k81, k82, k83, k84, k85, k86, k87, k88, k89, k90, k91, k92, k93, k94, MR_0 (fun _ => rfl) ⟨rfl, rfl, rfl⟩ (fun k a b => ?_)⟩, hF⟩
  rcases (show k = 0 ∨ k = 1 ∨ k = 2 ∨ k = 3 by omega) with rfl | rfl | rfl | rfl <;> rfl
