set_option maxRecDepth 100000 in
set_option maxHeartbeats 8000000 in
theorem c_X10_init {l : Launch} {Γ : JG} {ad : Nat → Nat} {E : Nat → va_E} (h78 : E 78 = .inr (9, [.null, .null, .int (jI 0), .int (jI 0), .int (jI 0), .int (jI 0), .int (jI 0), .int (jI 0), .int (jI 0), .int (jI 0), .int (jI 0), .int (jI 0), .int (jI 0), .int (jI 0), .null, .null, .null, .null, .null, .null, .null, .null, .null, .int (jI 0), .int (jI 0), .null, .null, .null, .null, .null, .int (jI 0)])) : JMA l Γ yX10_init cX10_init 1 none 1 20 16 3452 ad 79 E [.ref (ad 78)] (pV (fun E' => E' 78 = .inr (9, [.ref (ad 79), .ref (ad 80), .int (jI 0), .int (jI 0), .int (jI 0), .int (jI 0), .int (jI 0), .int (jI 0), .int (jI 0), .int (jI 0), .int (jI 0), .int (jI 0), .int (jI 0), .int (jI 0), .ref (ad 81), .ref (ad 82), .ref (ad 83), .ref (ad 84), .ref (ad 85), .ref (ad 86), .ref (ad 87), .ref (ad 88), .ref (ad 89), .int (jI 0), .int (jI 0), .ref (ad 90), .ref (ad 91), .ref (ad 92), .ref (ad 93), .ref (ad 94), .int (jI 0)]) ∧ E' 79 = aI Γ 305 (fun _ => 0) ∧ E' 80 = aI Γ 160 (fun _ => 0) ∧ E' 81 = aI Γ 3 (iu (iu (iu (fun _ => 0) 0 (-4)) 1 (-4)) 2 (-4)) ∧ E' 82 = aI Γ 4 (iu (iu (iu (iu (fun _ => 0) 0 0) 1 3) 2 6) 3 10) ∧ E' 83 = aI Γ 10 (iu (iu (iu (iu (iu (iu (iu (iu (iu (iu (fun _ => 0) 0 114) 1 111) 2 119) 3 114) 4 101) 5 112) 6 109) 7 97) 8 114) 9 107) ∧ E' 84 = aI Γ 60 (fun _ => 0) ∧ E' 85 = aI Γ 60 (fun _ => 0) ∧ E' 86 = aI Γ 60 (fun _ => 0) ∧ E' 87 = aI Γ 60 (fun _ => 0) ∧ E' 88 = aI Γ 1220 (fun _ => 0) ∧ E' 89 = aI Γ 1220 (fun _ => 0) ∧ E' 90 = aI Γ 120 (fun _ => 0) ∧ E' 91 = aZ Γ 2 (iu (iu (fun _ => 0) 0 0) 1 0) ∧ E' 92 = aI Γ 4 (iu (iu (iu (iu (fun _ => 0) 0 (-4)) 1 (-4)) 2 (-4)) 3 (-4)) ∧ E' 93 = aI Γ 4 (iu (iu (iu (iu (fun _ => 0) 0 0) 1 0) 2 0) 3 0) ∧ E' 94 = aI Γ 160 (fun _ => 0) ∧ ∀ j : Nat, j < 78 → E' j = E j)) := by
  refine JMA_intro (own := RX10) [some (.ref (ad 78))] rfl rfl rfl (Nat.le_of_ble_eq_true rfl) ?_
  intro Ω X R hin had
  obtain ⟨E0, hE0⟩ : ∃ E0 : Nat → va_E, E0 = E := ⟨_, rfl⟩
  have hF : ∀ j : Nat, j < 78 → E j = E0 j := fun _ _ => by rw [hE0]
  refine J_aload_n (q := 1) X dX10_init_0 rfl rfl ?_
  refine J_objInit (q := 4) X dX10_init_1 mX10_1 wObj1 wObj2 (by decide) (by decide) rfl ?_
  refine J_aload_n (q := 5) X dX10_init_4 rfl rfl ?_
  refine J_sipush (q := 8) X dX10_init_5 rfl (by decide) ?_
  refine J_newI (q := 10) X 305 dX10_init_8 wArrI rfl (by decide) (by decide) (by decide) had rfl rfl (fun Ea5 hk5 hs5 => ?_)
  replace h78 : Ea5 78 = _ := (hs5 78 (by decide)).trans h78
  have h79 : Ea5 79 = aI Γ 305 (fun _ => 0) := hk5
  replace hF : ∀ j : Nat, j < 78 → Ea5 j = E0 j := fun j hj => (hs5 j (by omega)).trans (hF j hj)
  show J l Γ Ω 1 ad 80 1 305 Ea5 10 [some (.ref (ad 78))] [.ref (ad 79), .ref (ad 78)]
  refine J_putF (q := 13) (ty := .array .int) X dX10_init_10 gX10_7 rfl (hin rfl) rfl (by decide +kernel) rfl rfl h78 (by decide) (Nat.le_of_ble_eq_true rfl) rfl (fun Ea6 hk6 hs6 => ?_)
  replace h79 : Ea6 79 = _ := (hs6 79 (by decide)).trans h79
  replace h78 : Ea6 78 = .inr (9, [.ref (ad 79), .null, .int (jI 0), .int (jI 0), .int (jI 0), .int (jI 0), .int (jI 0), .int (jI 0), .int (jI 0), .int (jI 0), .int (jI 0), .int (jI 0), .int (jI 0), .int (jI 0), .null, .null, .null, .null, .null, .null, .null, .null, .null, .int (jI 0), .int (jI 0), .null, .null, .null, .null, .null, .int (jI 0)]) := hk6
  replace hF : ∀ j : Nat, j < 78 → Ea6 j = E0 j := fun j hj => (hs6 j (by omega)).trans (hF j hj)
  refine J_aload_n (q := 14) X dX10_init_13 rfl rfl ?_
  refine J_sipush (q := 17) X dX10_init_14 rfl (by decide) ?_
  refine J_newI (q := 19) X 160 dX10_init_17 wArrI rfl (by decide) (by decide) (by decide) had rfl rfl (fun Ea9 hk9 hs9 => ?_)
  replace h78 : Ea9 78 = _ := (hs9 78 (by decide)).trans h78
  replace h79 : Ea9 79 = _ := (hs9 79 (by decide)).trans h79
  have h80 : Ea9 80 = aI Γ 160 (fun _ => 0) := hk9
  replace hF : ∀ j : Nat, j < 78 → Ea9 j = E0 j := fun j hj => (hs9 j (by omega)).trans (hF j hj)
  show J l Γ Ω 1 ad 81 2 465 Ea9 19 [some (.ref (ad 78))] [.ref (ad 80), .ref (ad 78)]
  refine J_putF (q := 22) (ty := .array .int) X dX10_init_19 gX10_13 rfl (hin rfl) rfl (by decide +kernel) rfl rfl h78 (by decide) (Nat.le_of_ble_eq_true rfl) rfl (fun Ea10 hk10 hs10 => ?_)
  replace h79 : Ea10 79 = _ := (hs10 79 (by decide)).trans h79
  replace h80 : Ea10 80 = _ := (hs10 80 (by decide)).trans h80
  replace h78 : Ea10 78 = .inr (9, [.ref (ad 79), .ref (ad 80), .int (jI 0), .int (jI 0), .int (jI 0), .int (jI 0), .int (jI 0), .int (jI 0), .int (jI 0), .int (jI 0), .int (jI 0), .int (jI 0), .int (jI 0), .int (jI 0), .null, .null, .null, .null, .null, .null, .null, .null, .null, .int (jI 0), .int (jI 0), .null, .null, .null, .null, .null, .int (jI 0)]) := hk10
  replace hF : ∀ j : Nat, j < 78 → Ea10 j = E0 j := fun j hj => (hs10 j (by omega)).trans (hF j hj)
  refine J_aload_n (q := 23) X dX10_init_22 rfl rfl ?_
  refine J_iconst (q := 24) X dX10_init_23 rfl ?_
  refine J_newI (q := 26) X 3 dX10_init_24 wArrI rfl (by decide) (by decide) (by decide) had rfl rfl (fun Ea13 hk13 hs13 => ?_)
  replace h78 : Ea13 78 = _ := (hs13 78 (by decide)).trans h78
  replace h79 : Ea13 79 = _ := (hs13 79 (by decide)).trans h79
  replace h80 : Ea13 80 = _ := (hs13 80 (by decide)).trans h80
  have h81 : Ea13 81 = aI Γ 3 (fun _ => 0) := hk13
  replace hF : ∀ j : Nat, j < 78 → Ea13 j = E0 j := fun j hj => (hs13 j (by omega)).trans (hF j hj)
  show J l Γ Ω 1 ad 82 3 468 Ea13 26 [some (.ref (ad 78))] [.ref (ad 81), .ref (ad 78)]
  refine J_dup (q := 27) X dX10_init_26 rfl rfl ?_
  refine J_iconst (q := 28) X dX10_init_27 rfl ?_
  refine J_bipush (q := 30) X dX10_init_28 rfl (by decide) ?_
  refine J_iast (q := 31) X dX10_init_30 h81 (by decide) (by decide) (by decide) rfl (fun Ea17 hk17 hs17 => ?_)
  replace h78 : Ea17 78 = _ := (hs17 78 (by decide)).trans h78
  replace h79 : Ea17 79 = _ := (hs17 79 (by decide)).trans h79
  replace h80 : Ea17 80 = _ := (hs17 80 (by decide)).trans h80
  replace h81 : Ea17 81 = aI Γ 3 (iu (fun _ => 0) 0 (-4)) := hk17
  replace hF : ∀ j : Nat, j < 78 → Ea17 j = E0 j := fun j hj => (hs17 j (by omega)).trans (hF j hj)
  refine J_dup (q := 32) X dX10_init_31 rfl rfl ?_
  refine J_iconst (q := 33) X dX10_init_32 rfl ?_
  refine J_bipush (q := 35) X dX10_init_33 rfl (by decide) ?_
  refine J_iast (q := 36) X dX10_init_35 h81 (by decide) (by decide) (by decide) rfl (fun Ea21 hk21 hs21 => ?_)
  replace h78 : Ea21 78 = _ := (hs21 78 (by decide)).trans h78
  replace h79 : Ea21 79 = _ := (hs21 79 (by decide)).trans h79
  replace h80 : Ea21 80 = _ := (hs21 80 (by decide)).trans h80
  replace h81 : Ea21 81 = aI Γ 3 (iu (iu (fun _ => 0) 0 (-4)) 1 (-4)) := hk21
  replace hF : ∀ j : Nat, j < 78 → Ea21 j = E0 j := fun j hj => (hs21 j (by omega)).trans (hF j hj)
  refine J_dup (q := 37) X dX10_init_36 rfl rfl ?_
  refine J_iconst (q := 38) X dX10_init_37 rfl ?_
  refine J_bipush (q := 40) X dX10_init_38 rfl (by decide) ?_
  refine J_iast (q := 41) X dX10_init_40 h81 (by decide) (by decide) (by decide) rfl (fun Ea25 hk25 hs25 => ?_)
  replace h78 : Ea25 78 = _ := (hs25 78 (by decide)).trans h78
  replace h79 : Ea25 79 = _ := (hs25 79 (by decide)).trans h79
  replace h80 : Ea25 80 = _ := (hs25 80 (by decide)).trans h80
  replace h81 : Ea25 81 = aI Γ 3 (iu (iu (iu (fun _ => 0) 0 (-4)) 1 (-4)) 2 (-4)) := hk25
  replace hF : ∀ j : Nat, j < 78 → Ea25 j = E0 j := fun j hj => (hs25 j (by omega)).trans (hF j hj)
  refine J_putF (q := 44) (ty := .array .int) X dX10_init_41 gX10_16 rfl (hin rfl) rfl (by decide +kernel) rfl rfl h78 (by decide) (Nat.le_of_ble_eq_true rfl) rfl (fun Ea26 hk26 hs26 => ?_)
  replace h79 : Ea26 79 = _ := (hs26 79 (by decide)).trans h79
  replace h80 : Ea26 80 = _ := (hs26 80 (by decide)).trans h80
  replace h81 : Ea26 81 = _ := (hs26 81 (by decide)).trans h81
  replace h78 : Ea26 78 = .inr (9, [.ref (ad 79), .ref (ad 80), .int (jI 0), .int (jI 0), .int (jI 0), .int (jI 0), .int (jI 0), .int (jI 0), .int (jI 0), .int (jI 0), .int (jI 0), .int (jI 0), .int (jI 0), .int (jI 0), .ref (ad 81), .null, .null, .null, .null, .null, .null, .null, .null, .int (jI 0), .int (jI 0), .null, .null, .null, .null, .null, .int (jI 0)]) := hk26
  replace hF : ∀ j : Nat, j < 78 → Ea26 j = E0 j := fun j hj => (hs26 j (by omega)).trans (hF j hj)
  refine J_aload_n (q := 45) X dX10_init_44 rfl rfl ?_
  refine J_iconst (q := 46) X dX10_init_45 rfl ?_
  refine J_newI (q := 48) X 4 dX10_init_46 wArrI rfl (by decide) (by decide) (by decide) had rfl rfl (fun Ea29 hk29 hs29 => ?_)
  replace h78 : Ea29 78 = _ := (hs29 78 (by decide)).trans h78
  replace h79 : Ea29 79 = _ := (hs29 79 (by decide)).trans h79
  replace h80 : Ea29 80 = _ := (hs29 80 (by decide)).trans h80
  replace h81 : Ea29 81 = _ := (hs29 81 (by decide)).trans h81
  have h82 : Ea29 82 = aI Γ 4 (fun _ => 0) := hk29
  replace hF : ∀ j : Nat, j < 78 → Ea29 j = E0 j := fun j hj => (hs29 j (by omega)).trans (hF j hj)
  show J l Γ Ω 1 ad 83 4 472 Ea29 48 [some (.ref (ad 78))] [.ref (ad 82), .ref (ad 78)]
  refine J_dup (q := 49) X dX10_init_48 rfl rfl ?_
  refine J_iconst (q := 50) X dX10_init_49 rfl ?_
  refine J_iconst (q := 51) X dX10_init_50 rfl ?_
  refine J_iast (q := 52) X dX10_init_51 h82 (by decide) (by decide) (by decide) rfl (fun Ea33 hk33 hs33 => ?_)
  replace h78 : Ea33 78 = _ := (hs33 78 (by decide)).trans h78
  replace h79 : Ea33 79 = _ := (hs33 79 (by decide)).trans h79
  replace h80 : Ea33 80 = _ := (hs33 80 (by decide)).trans h80
  replace h81 : Ea33 81 = _ := (hs33 81 (by decide)).trans h81
  replace h82 : Ea33 82 = aI Γ 4 (iu (fun _ => 0) 0 0) := hk33
  replace hF : ∀ j : Nat, j < 78 → Ea33 j = E0 j := fun j hj => (hs33 j (by omega)).trans (hF j hj)
  refine J_dup (q := 53) X dX10_init_52 rfl rfl ?_
  refine J_iconst (q := 54) X dX10_init_53 rfl ?_
  refine J_iconst (q := 55) X dX10_init_54 rfl ?_
  refine J_iast (q := 56) X dX10_init_55 h82 (by decide) (by decide) (by decide) rfl (fun Ea37 hk37 hs37 => ?_)
  replace h78 : Ea37 78 = _ := (hs37 78 (by decide)).trans h78
  replace h79 : Ea37 79 = _ := (hs37 79 (by decide)).trans h79
  replace h80 : Ea37 80 = _ := (hs37 80 (by decide)).trans h80
  replace h81 : Ea37 81 = _ := (hs37 81 (by decide)).trans h81
  replace h82 : Ea37 82 = aI Γ 4 (iu (iu (fun _ => 0) 0 0) 1 3) := hk37
  replace hF : ∀ j : Nat, j < 78 → Ea37 j = E0 j := fun j hj => (hs37 j (by omega)).trans (hF j hj)
  refine J_dup (q := 57) X dX10_init_56 rfl rfl ?_
  refine J_iconst (q := 58) X dX10_init_57 rfl ?_
  refine J_bipush (q := 60) X dX10_init_58 rfl (by decide) ?_
  refine J_iast (q := 61) X dX10_init_60 h82 (by decide) (by decide) (by decide) rfl (fun Ea41 hk41 hs41 => ?_)
  replace h78 : Ea41 78 = _ := (hs41 78 (by decide)).trans h78
  replace h79 : Ea41 79 = _ := (hs41 79 (by decide)).trans h79
  replace h80 : Ea41 80 = _ := (hs41 80 (by decide)).trans h80
  replace h81 : Ea41 81 = _ := (hs41 81 (by decide)).trans h81
  replace h82 : Ea41 82 = aI Γ 4 (iu (iu (iu (fun _ => 0) 0 0) 1 3) 2 6) := hk41
  replace hF : ∀ j : Nat, j < 78 → Ea41 j = E0 j := fun j hj => (hs41 j (by omega)).trans (hF j hj)
  refine J_dup (q := 62) X dX10_init_61 rfl rfl ?_
  refine J_iconst (q := 63) X dX10_init_62 rfl ?_
  refine J_bipush (q := 65) X dX10_init_63 rfl (by decide) ?_
  refine J_iast (q := 66) X dX10_init_65 h82 (by decide) (by decide) (by decide) rfl (fun Ea45 hk45 hs45 => ?_)
  replace h78 : Ea45 78 = _ := (hs45 78 (by decide)).trans h78
  replace h79 : Ea45 79 = _ := (hs45 79 (by decide)).trans h79
  replace h80 : Ea45 80 = _ := (hs45 80 (by decide)).trans h80
  replace h81 : Ea45 81 = _ := (hs45 81 (by decide)).trans h81
  replace h82 : Ea45 82 = aI Γ 4 (iu (iu (iu (iu (fun _ => 0) 0 0) 1 3) 2 6) 3 10) := hk45
  replace hF : ∀ j : Nat, j < 78 → Ea45 j = E0 j := fun j hj => (hs45 j (by omega)).trans (hF j hj)
  refine J_putF (q := 69) (ty := .array .int) X dX10_init_66 gX10_19 rfl (hin rfl) rfl (by decide +kernel) rfl rfl h78 (by decide) (Nat.le_of_ble_eq_true rfl) rfl (fun Ea46 hk46 hs46 => ?_)
  replace h79 : Ea46 79 = _ := (hs46 79 (by decide)).trans h79
  replace h80 : Ea46 80 = _ := (hs46 80 (by decide)).trans h80
  replace h81 : Ea46 81 = _ := (hs46 81 (by decide)).trans h81
  replace h82 : Ea46 82 = _ := (hs46 82 (by decide)).trans h82
  replace h78 : Ea46 78 = .inr (9, [.ref (ad 79), .ref (ad 80), .int (jI 0), .int (jI 0), .int (jI 0), .int (jI 0), .int (jI 0), .int (jI 0), .int (jI 0), .int (jI 0), .int (jI 0), .int (jI 0), .int (jI 0), .int (jI 0), .ref (ad 81), .ref (ad 82), .null, .null, .null, .null, .null, .null, .null, .int (jI 0), .int (jI 0), .null, .null, .null, .null, .null, .int (jI 0)]) := hk46
  replace hF : ∀ j : Nat, j < 78 → Ea46 j = E0 j := fun j hj => (hs46 j (by omega)).trans (hF j hj)
  refine J_aload_n (q := 70) X dX10_init_69 rfl rfl ?_
  refine J_bipush (q := 72) X dX10_init_70 rfl (by decide) ?_
  refine J_newI (q := 74) X 10 dX10_init_72 wArrI rfl (by decide) (by decide) (by decide) had rfl rfl (fun Ea49 hk49 hs49 => ?_)
  replace h78 : Ea49 78 = _ := (hs49 78 (by decide)).trans h78
  replace h79 : Ea49 79 = _ := (hs49 79 (by decide)).trans h79
  replace h80 : Ea49 80 = _ := (hs49 80 (by decide)).trans h80
  replace h81 : Ea49 81 = _ := (hs49 81 (by decide)).trans h81
  replace h82 : Ea49 82 = _ := (hs49 82 (by decide)).trans h82
  have h83 : Ea49 83 = aI Γ 10 (fun _ => 0) := hk49
  replace hF : ∀ j : Nat, j < 78 → Ea49 j = E0 j := fun j hj => (hs49 j (by omega)).trans (hF j hj)
  show J l Γ Ω 1 ad 84 5 482 Ea49 74 [some (.ref (ad 78))] [.ref (ad 83), .ref (ad 78)]
  refine J_dup (q := 75) X dX10_init_74 rfl rfl ?_
  refine J_iconst (q := 76) X dX10_init_75 rfl ?_
  refine J_bipush (q := 78) X dX10_init_76 rfl (by decide) ?_
  refine J_iast (q := 79) X dX10_init_78 h83 (by decide) (by decide) (by decide) rfl (fun Ea53 hk53 hs53 => ?_)
  replace h78 : Ea53 78 = _ := (hs53 78 (by decide)).trans h78
  replace h79 : Ea53 79 = _ := (hs53 79 (by decide)).trans h79
  replace h80 : Ea53 80 = _ := (hs53 80 (by decide)).trans h80
  replace h81 : Ea53 81 = _ := (hs53 81 (by decide)).trans h81
  replace h82 : Ea53 82 = _ := (hs53 82 (by decide)).trans h82
  replace h83 : Ea53 83 = aI Γ 10 (iu (fun _ => 0) 0 114) := hk53
  replace hF : ∀ j : Nat, j < 78 → Ea53 j = E0 j := fun j hj => (hs53 j (by omega)).trans (hF j hj)
  refine J_dup (q := 80) X dX10_init_79 rfl rfl ?_
  refine J_iconst (q := 81) X dX10_init_80 rfl ?_
  refine J_bipush (q := 83) X dX10_init_81 rfl (by decide) ?_
  refine J_iast (q := 84) X dX10_init_83 h83 (by decide) (by decide) (by decide) rfl (fun Ea57 hk57 hs57 => ?_)
  replace h78 : Ea57 78 = _ := (hs57 78 (by decide)).trans h78
  replace h79 : Ea57 79 = _ := (hs57 79 (by decide)).trans h79
  replace h80 : Ea57 80 = _ := (hs57 80 (by decide)).trans h80
  replace h81 : Ea57 81 = _ := (hs57 81 (by decide)).trans h81
  replace h82 : Ea57 82 = _ := (hs57 82 (by decide)).trans h82
  replace h83 : Ea57 83 = aI Γ 10 (iu (iu (fun _ => 0) 0 114) 1 111) := hk57
  replace hF : ∀ j : Nat, j < 78 → Ea57 j = E0 j := fun j hj => (hs57 j (by omega)).trans (hF j hj)
  refine J_dup (q := 85) X dX10_init_84 rfl rfl ?_
  refine J_iconst (q := 86) X dX10_init_85 rfl ?_
  refine J_bipush (q := 88) X dX10_init_86 rfl (by decide) ?_
  refine J_iast (q := 89) X dX10_init_88 h83 (by decide) (by decide) (by decide) rfl (fun Ea61 hk61 hs61 => ?_)
  replace h78 : Ea61 78 = _ := (hs61 78 (by decide)).trans h78
  replace h79 : Ea61 79 = _ := (hs61 79 (by decide)).trans h79
  replace h80 : Ea61 80 = _ := (hs61 80 (by decide)).trans h80
  replace h81 : Ea61 81 = _ := (hs61 81 (by decide)).trans h81
  replace h82 : Ea61 82 = _ := (hs61 82 (by decide)).trans h82
  replace h83 : Ea61 83 = aI Γ 10 (iu (iu (iu (fun _ => 0) 0 114) 1 111) 2 119) := hk61
  replace hF : ∀ j : Nat, j < 78 → Ea61 j = E0 j := fun j hj => (hs61 j (by omega)).trans (hF j hj)
  refine J_dup (q := 90) X dX10_init_89 rfl rfl ?_
  refine J_iconst (q := 91) X dX10_init_90 rfl ?_
  refine J_bipush (q := 93) X dX10_init_91 rfl (by decide) ?_
  refine J_iast (q := 94) X dX10_init_93 h83 (by decide) (by decide) (by decide) rfl (fun Ea65 hk65 hs65 => ?_)
  replace h78 : Ea65 78 = _ := (hs65 78 (by decide)).trans h78
  replace h79 : Ea65 79 = _ := (hs65 79 (by decide)).trans h79
  replace h80 : Ea65 80 = _ := (hs65 80 (by decide)).trans h80
  replace h81 : Ea65 81 = _ := (hs65 81 (by decide)).trans h81
  replace h82 : Ea65 82 = _ := (hs65 82 (by decide)).trans h82
  replace h83 : Ea65 83 = aI Γ 10 (iu (iu (iu (iu (fun _ => 0) 0 114) 1 111) 2 119) 3 114) := hk65
  replace hF : ∀ j : Nat, j < 78 → Ea65 j = E0 j := fun j hj => (hs65 j (by omega)).trans (hF j hj)
  refine J_dup (q := 95) X dX10_init_94 rfl rfl ?_
  refine J_iconst (q := 96) X dX10_init_95 rfl ?_
  refine J_bipush (q := 98) X dX10_init_96 rfl (by decide) ?_
  refine J_iast (q := 99) X dX10_init_98 h83 (by decide) (by decide) (by decide) rfl (fun Ea69 hk69 hs69 => ?_)
  replace h78 : Ea69 78 = _ := (hs69 78 (by decide)).trans h78
  replace h79 : Ea69 79 = _ := (hs69 79 (by decide)).trans h79
  replace h80 : Ea69 80 = _ := (hs69 80 (by decide)).trans h80
  replace h81 : Ea69 81 = _ := (hs69 81 (by decide)).trans h81
  replace h82 : Ea69 82 = _ := (hs69 82 (by decide)).trans h82
  replace h83 : Ea69 83 = aI Γ 10 (iu (iu (iu (iu (iu (fun _ => 0) 0 114) 1 111) 2 119) 3 114) 4 101) := hk69
  replace hF : ∀ j : Nat, j < 78 → Ea69 j = E0 j := fun j hj => (hs69 j (by omega)).trans (hF j hj)
  refine J_dup (q := 100) X dX10_init_99 rfl rfl ?_
  refine J_iconst (q := 101) X dX10_init_100 rfl ?_
  refine J_bipush (q := 103) X dX10_init_101 rfl (by decide) ?_
  refine J_iast (q := 104) X dX10_init_103 h83 (by decide) (by decide) (by decide) rfl (fun Ea73 hk73 hs73 => ?_)
  replace h78 : Ea73 78 = _ := (hs73 78 (by decide)).trans h78
  replace h79 : Ea73 79 = _ := (hs73 79 (by decide)).trans h79
  replace h80 : Ea73 80 = _ := (hs73 80 (by decide)).trans h80
  replace h81 : Ea73 81 = _ := (hs73 81 (by decide)).trans h81
  replace h82 : Ea73 82 = _ := (hs73 82 (by decide)).trans h82
  replace h83 : Ea73 83 = aI Γ 10 (iu (iu (iu (iu (iu (iu (fun _ => 0) 0 114) 1 111) 2 119) 3 114) 4 101) 5 112) := hk73
  replace hF : ∀ j : Nat, j < 78 → Ea73 j = E0 j := fun j hj => (hs73 j (by omega)).trans (hF j hj)
  refine J_dup (q := 105) X dX10_init_104 rfl rfl ?_
  refine J_bipush (q := 107) X dX10_init_105 rfl (by decide) ?_
  refine J_bipush (q := 109) X dX10_init_107 rfl (by decide) ?_
  refine J_iast (q := 110) X dX10_init_109 h83 (by decide) (by decide) (by decide) rfl (fun Ea77 hk77 hs77 => ?_)
  replace h78 : Ea77 78 = _ := (hs77 78 (by decide)).trans h78
  replace h79 : Ea77 79 = _ := (hs77 79 (by decide)).trans h79
  replace h80 : Ea77 80 = _ := (hs77 80 (by decide)).trans h80
  replace h81 : Ea77 81 = _ := (hs77 81 (by decide)).trans h81
  replace h82 : Ea77 82 = _ := (hs77 82 (by decide)).trans h82
  replace h83 : Ea77 83 = aI Γ 10 (iu (iu (iu (iu (iu (iu (iu (fun _ => 0) 0 114) 1 111) 2 119) 3 114) 4 101) 5 112) 6 109) := hk77
  replace hF : ∀ j : Nat, j < 78 → Ea77 j = E0 j := fun j hj => (hs77 j (by omega)).trans (hF j hj)
  refine J_dup (q := 111) X dX10_init_110 rfl rfl ?_
  refine J_bipush (q := 113) X dX10_init_111 rfl (by decide) ?_
  refine J_bipush (q := 115) X dX10_init_113 rfl (by decide) ?_
  refine J_iast (q := 116) X dX10_init_115 h83 (by decide) (by decide) (by decide) rfl (fun Ea81 hk81 hs81 => ?_)
  replace h78 : Ea81 78 = _ := (hs81 78 (by decide)).trans h78
  replace h79 : Ea81 79 = _ := (hs81 79 (by decide)).trans h79
  replace h80 : Ea81 80 = _ := (hs81 80 (by decide)).trans h80
  replace h81 : Ea81 81 = _ := (hs81 81 (by decide)).trans h81
  replace h82 : Ea81 82 = _ := (hs81 82 (by decide)).trans h82
  replace h83 : Ea81 83 = aI Γ 10 (iu (iu (iu (iu (iu (iu (iu (iu (fun _ => 0) 0 114) 1 111) 2 119) 3 114) 4 101) 5 112) 6 109) 7 97) := hk81
  replace hF : ∀ j : Nat, j < 78 → Ea81 j = E0 j := fun j hj => (hs81 j (by omega)).trans (hF j hj)
  refine J_dup (q := 117) X dX10_init_116 rfl rfl ?_
  refine J_bipush (q := 119) X dX10_init_117 rfl (by decide) ?_
  refine J_bipush (q := 121) X dX10_init_119 rfl (by decide) ?_
  refine J_iast (q := 122) X dX10_init_121 h83 (by decide) (by decide) (by decide) rfl (fun Ea85 hk85 hs85 => ?_)
  replace h78 : Ea85 78 = _ := (hs85 78 (by decide)).trans h78
  replace h79 : Ea85 79 = _ := (hs85 79 (by decide)).trans h79
  replace h80 : Ea85 80 = _ := (hs85 80 (by decide)).trans h80
  replace h81 : Ea85 81 = _ := (hs85 81 (by decide)).trans h81
  replace h82 : Ea85 82 = _ := (hs85 82 (by decide)).trans h82
  replace h83 : Ea85 83 = aI Γ 10 (iu (iu (iu (iu (iu (iu (iu (iu (iu (fun _ => 0) 0 114) 1 111) 2 119) 3 114) 4 101) 5 112) 6 109) 7 97) 8 114) := hk85
  replace hF : ∀ j : Nat, j < 78 → Ea85 j = E0 j := fun j hj => (hs85 j (by omega)).trans (hF j hj)
  refine J_dup (q := 123) X dX10_init_122 rfl rfl ?_
  refine J_bipush (q := 125) X dX10_init_123 rfl (by decide) ?_
  refine J_bipush (q := 127) X dX10_init_125 rfl (by decide) ?_
  refine J_iast (q := 128) X dX10_init_127 h83 (by decide) (by decide) (by decide) rfl (fun Ea89 hk89 hs89 => ?_)
  replace h78 : Ea89 78 = _ := (hs89 78 (by decide)).trans h78
  replace h79 : Ea89 79 = _ := (hs89 79 (by decide)).trans h79
  replace h80 : Ea89 80 = _ := (hs89 80 (by decide)).trans h80
  replace h81 : Ea89 81 = _ := (hs89 81 (by decide)).trans h81
  replace h82 : Ea89 82 = _ := (hs89 82 (by decide)).trans h82
  replace h83 : Ea89 83 = aI Γ 10 (iu (iu (iu (iu (iu (iu (iu (iu (iu (iu (fun _ => 0) 0 114) 1 111) 2 119) 3 114) 4 101) 5 112) 6 109) 7 97) 8 114) 9 107) := hk89
  replace hF : ∀ j : Nat, j < 78 → Ea89 j = E0 j := fun j hj => (hs89 j (by omega)).trans (hF j hj)
  refine J_putF (q := 131) (ty := .array .int) X dX10_init_128 gX10_22 rfl (hin rfl) rfl (by decide +kernel) rfl rfl h78 (by decide) (Nat.le_of_ble_eq_true rfl) rfl (fun Ea90 hk90 hs90 => ?_)
  replace h79 : Ea90 79 = _ := (hs90 79 (by decide)).trans h79
  replace h80 : Ea90 80 = _ := (hs90 80 (by decide)).trans h80
  replace h81 : Ea90 81 = _ := (hs90 81 (by decide)).trans h81
  replace h82 : Ea90 82 = _ := (hs90 82 (by decide)).trans h82
  replace h83 : Ea90 83 = _ := (hs90 83 (by decide)).trans h83
  replace h78 : Ea90 78 = .inr (9, [.ref (ad 79), .ref (ad 80), .int (jI 0), .int (jI 0), .int (jI 0), .int (jI 0), .int (jI 0), .int (jI 0), .int (jI 0), .int (jI 0), .int (jI 0), .int (jI 0), .int (jI 0), .int (jI 0), .ref (ad 81), .ref (ad 82), .ref (ad 83), .null, .null, .null, .null, .null, .null, .int (jI 0), .int (jI 0), .null, .null, .null, .null, .null, .int (jI 0)]) := hk90
  replace hF : ∀ j : Nat, j < 78 → Ea90 j = E0 j := fun j hj => (hs90 j (by omega)).trans (hF j hj)
  refine J_aload_n (q := 132) X dX10_init_131 rfl rfl ?_
  refine J_bipush (q := 134) X dX10_init_132 rfl (by decide) ?_
  refine J_newI (q := 136) X 60 dX10_init_134 wArrI rfl (by decide) (by decide) (by decide) had rfl rfl (fun Ea93 hk93 hs93 => ?_)
  replace h78 : Ea93 78 = _ := (hs93 78 (by decide)).trans h78
  replace h79 : Ea93 79 = _ := (hs93 79 (by decide)).trans h79
  replace h80 : Ea93 80 = _ := (hs93 80 (by decide)).trans h80
  replace h81 : Ea93 81 = _ := (hs93 81 (by decide)).trans h81
  replace h82 : Ea93 82 = _ := (hs93 82 (by decide)).trans h82
  replace h83 : Ea93 83 = _ := (hs93 83 (by decide)).trans h83
  have h84 : Ea93 84 = aI Γ 60 (fun _ => 0) := hk93
  replace hF : ∀ j : Nat, j < 78 → Ea93 j = E0 j := fun j hj => (hs93 j (by omega)).trans (hF j hj)
  show J l Γ Ω 1 ad 85 6 542 Ea93 136 [some (.ref (ad 78))] [.ref (ad 84), .ref (ad 78)]
  refine J_putF (q := 139) (ty := .array .int) X dX10_init_136 gX10_25 rfl (hin rfl) rfl (by decide +kernel) rfl rfl h78 (by decide) (Nat.le_of_ble_eq_true rfl) rfl (fun Ea94 hk94 hs94 => ?_)
  replace h79 : Ea94 79 = _ := (hs94 79 (by decide)).trans h79
  replace h80 : Ea94 80 = _ := (hs94 80 (by decide)).trans h80
  replace h81 : Ea94 81 = _ := (hs94 81 (by decide)).trans h81
  replace h82 : Ea94 82 = _ := (hs94 82 (by decide)).trans h82
  replace h83 : Ea94 83 = _ := (hs94 83 (by decide)).trans h83
  replace h84 : Ea94 84 = _ := (hs94 84 (by decide)).trans h84
  replace h78 : Ea94 78 = .inr (9, [.ref (ad 79), .ref (ad 80), .int (jI 0), .int (jI 0), .int (jI 0), .int (jI 0), .int (jI 0), .int (jI 0), .int (jI 0), .int (jI 0), .int (jI 0), .int (jI 0), .int (jI 0), .int (jI 0), .ref (ad 81), .ref (ad 82), .ref (ad 83), .ref (ad 84), .null, .null, .null, .null, .null, .int (jI 0), .int (jI 0), .null, .null, .null, .null, .null, .int (jI 0)]) := hk94
  replace hF : ∀ j : Nat, j < 78 → Ea94 j = E0 j := fun j hj => (hs94 j (by omega)).trans (hF j hj)
  refine J_aload_n (q := 140) X dX10_init_139 rfl rfl ?_
  refine J_bipush (q := 142) X dX10_init_140 rfl (by decide) ?_
  refine J_newI (q := 144) X 60 dX10_init_142 wArrI rfl (by decide) (by decide) (by decide) had rfl rfl (fun Ea97 hk97 hs97 => ?_)
  replace h78 : Ea97 78 = _ := (hs97 78 (by decide)).trans h78
  replace h79 : Ea97 79 = _ := (hs97 79 (by decide)).trans h79
  replace h80 : Ea97 80 = _ := (hs97 80 (by decide)).trans h80
  replace h81 : Ea97 81 = _ := (hs97 81 (by decide)).trans h81
  replace h82 : Ea97 82 = _ := (hs97 82 (by decide)).trans h82
  replace h83 : Ea97 83 = _ := (hs97 83 (by decide)).trans h83
  replace h84 : Ea97 84 = _ := (hs97 84 (by decide)).trans h84
  have h85 : Ea97 85 = aI Γ 60 (fun _ => 0) := hk97
  replace hF : ∀ j : Nat, j < 78 → Ea97 j = E0 j := fun j hj => (hs97 j (by omega)).trans (hF j hj)
  show J l Γ Ω 1 ad 86 7 602 Ea97 144 [some (.ref (ad 78))] [.ref (ad 85), .ref (ad 78)]
  refine J_putF (q := 147) (ty := .array .int) X dX10_init_144 gX10_28 rfl (hin rfl) rfl (by decide +kernel) rfl rfl h78 (by decide) (Nat.le_of_ble_eq_true rfl) rfl (fun Ea98 hk98 hs98 => ?_)
  replace h79 : Ea98 79 = _ := (hs98 79 (by decide)).trans h79
  replace h80 : Ea98 80 = _ := (hs98 80 (by decide)).trans h80
  replace h81 : Ea98 81 = _ := (hs98 81 (by decide)).trans h81
  replace h82 : Ea98 82 = _ := (hs98 82 (by decide)).trans h82
  replace h83 : Ea98 83 = _ := (hs98 83 (by decide)).trans h83
  replace h84 : Ea98 84 = _ := (hs98 84 (by decide)).trans h84
  replace h85 : Ea98 85 = _ := (hs98 85 (by decide)).trans h85
  replace h78 : Ea98 78 = .inr (9, [.ref (ad 79), .ref (ad 80), .int (jI 0), .int (jI 0), .int (jI 0), .int (jI 0), .int (jI 0), .int (jI 0), .int (jI 0), .int (jI 0), .int (jI 0), .int (jI 0), .int (jI 0), .int (jI 0), .ref (ad 81), .ref (ad 82), .ref (ad 83), .ref (ad 84), .ref (ad 85), .null, .null, .null, .null, .int (jI 0), .int (jI 0), .null, .null, .null, .null, .null, .int (jI 0)]) := hk98
  replace hF : ∀ j : Nat, j < 78 → Ea98 j = E0 j := fun j hj => (hs98 j (by omega)).trans (hF j hj)
  refine J_aload_n (q := 148) X dX10_init_147 rfl rfl ?_
  refine J_bipush (q := 150) X dX10_init_148 rfl (by decide) ?_
  refine J_newI (q := 152) X 60 dX10_init_150 wArrI rfl (by decide) (by decide) (by decide) had rfl rfl (fun Ea101 hk101 hs101 => ?_)
  replace h78 : Ea101 78 = _ := (hs101 78 (by decide)).trans h78
  replace h79 : Ea101 79 = _ := (hs101 79 (by decide)).trans h79
  replace h80 : Ea101 80 = _ := (hs101 80 (by decide)).trans h80
  replace h81 : Ea101 81 = _ := (hs101 81 (by decide)).trans h81
  replace h82 : Ea101 82 = _ := (hs101 82 (by decide)).trans h82
  replace h83 : Ea101 83 = _ := (hs101 83 (by decide)).trans h83
  replace h84 : Ea101 84 = _ := (hs101 84 (by decide)).trans h84
  replace h85 : Ea101 85 = _ := (hs101 85 (by decide)).trans h85
  have h86 : Ea101 86 = aI Γ 60 (fun _ => 0) := hk101
  replace hF : ∀ j : Nat, j < 78 → Ea101 j = E0 j := fun j hj => (hs101 j (by omega)).trans (hF j hj)
  show J l Γ Ω 1 ad 87 8 662 Ea101 152 [some (.ref (ad 78))] [.ref (ad 86), .ref (ad 78)]
  refine J_putF (q := 155) (ty := .array .int) X dX10_init_152 gX10_31 rfl (hin rfl) rfl (by decide +kernel) rfl rfl h78 (by decide) (Nat.le_of_ble_eq_true rfl) rfl (fun Ea102 hk102 hs102 => ?_)
  replace h79 : Ea102 79 = _ := (hs102 79 (by decide)).trans h79
  replace h80 : Ea102 80 = _ := (hs102 80 (by decide)).trans h80
  replace h81 : Ea102 81 = _ := (hs102 81 (by decide)).trans h81
  replace h82 : Ea102 82 = _ := (hs102 82 (by decide)).trans h82
  replace h83 : Ea102 83 = _ := (hs102 83 (by decide)).trans h83
  replace h84 : Ea102 84 = _ := (hs102 84 (by decide)).trans h84
  replace h85 : Ea102 85 = _ := (hs102 85 (by decide)).trans h85
  replace h86 : Ea102 86 = _ := (hs102 86 (by decide)).trans h86
  replace h78 : Ea102 78 = .inr (9, [.ref (ad 79), .ref (ad 80), .int (jI 0), .int (jI 0), .int (jI 0), .int (jI 0), .int (jI 0), .int (jI 0), .int (jI 0), .int (jI 0), .int (jI 0), .int (jI 0), .int (jI 0), .int (jI 0), .ref (ad 81), .ref (ad 82), .ref (ad 83), .ref (ad 84), .ref (ad 85), .ref (ad 86), .null, .null, .null, .int (jI 0), .int (jI 0), .null, .null, .null, .null, .null, .int (jI 0)]) := hk102
  replace hF : ∀ j : Nat, j < 78 → Ea102 j = E0 j := fun j hj => (hs102 j (by omega)).trans (hF j hj)
  refine J_aload_n (q := 156) X dX10_init_155 rfl rfl ?_
  refine J_bipush (q := 158) X dX10_init_156 rfl (by decide) ?_
  refine J_newI (q := 160) X 60 dX10_init_158 wArrI rfl (by decide) (by decide) (by decide) had rfl rfl (fun Ea105 hk105 hs105 => ?_)
  replace h78 : Ea105 78 = _ := (hs105 78 (by decide)).trans h78
  replace h79 : Ea105 79 = _ := (hs105 79 (by decide)).trans h79
  replace h80 : Ea105 80 = _ := (hs105 80 (by decide)).trans h80
  replace h81 : Ea105 81 = _ := (hs105 81 (by decide)).trans h81
  replace h82 : Ea105 82 = _ := (hs105 82 (by decide)).trans h82
  replace h83 : Ea105 83 = _ := (hs105 83 (by decide)).trans h83
  replace h84 : Ea105 84 = _ := (hs105 84 (by decide)).trans h84
  replace h85 : Ea105 85 = _ := (hs105 85 (by decide)).trans h85
  replace h86 : Ea105 86 = _ := (hs105 86 (by decide)).trans h86
  have h87 : Ea105 87 = aI Γ 60 (fun _ => 0) := hk105
  replace hF : ∀ j : Nat, j < 78 → Ea105 j = E0 j := fun j hj => (hs105 j (by omega)).trans (hF j hj)
  show J l Γ Ω 1 ad 88 9 722 Ea105 160 [some (.ref (ad 78))] [.ref (ad 87), .ref (ad 78)]
  refine J_putF (q := 163) (ty := .array .int) X dX10_init_160 gX10_34 rfl (hin rfl) rfl (by decide +kernel) rfl rfl h78 (by decide) (Nat.le_of_ble_eq_true rfl) rfl (fun Ea106 hk106 hs106 => ?_)
  replace h79 : Ea106 79 = _ := (hs106 79 (by decide)).trans h79
  replace h80 : Ea106 80 = _ := (hs106 80 (by decide)).trans h80
  replace h81 : Ea106 81 = _ := (hs106 81 (by decide)).trans h81
  replace h82 : Ea106 82 = _ := (hs106 82 (by decide)).trans h82
  replace h83 : Ea106 83 = _ := (hs106 83 (by decide)).trans h83
  replace h84 : Ea106 84 = _ := (hs106 84 (by decide)).trans h84
  replace h85 : Ea106 85 = _ := (hs106 85 (by decide)).trans h85
  replace h86 : Ea106 86 = _ := (hs106 86 (by decide)).trans h86
  replace h87 : Ea106 87 = _ := (hs106 87 (by decide)).trans h87
  replace h78 : Ea106 78 = .inr (9, [.ref (ad 79), .ref (ad 80), .int (jI 0), .int (jI 0), .int (jI 0), .int (jI 0), .int (jI 0), .int (jI 0), .int (jI 0), .int (jI 0), .int (jI 0), .int (jI 0), .int (jI 0), .int (jI 0), .ref (ad 81), .ref (ad 82), .ref (ad 83), .ref (ad 84), .ref (ad 85), .ref (ad 86), .ref (ad 87), .null, .null, .int (jI 0), .int (jI 0), .null, .null, .null, .null, .null, .int (jI 0)]) := hk106
  replace hF : ∀ j : Nat, j < 78 → Ea106 j = E0 j := fun j hj => (hs106 j (by omega)).trans (hF j hj)
  refine J_aload_n (q := 164) X dX10_init_163 rfl rfl ?_
  refine J_sipush (q := 167) X dX10_init_164 rfl (by decide) ?_
  refine J_newI (q := 169) X 1220 dX10_init_167 wArrI rfl (by decide) (by decide) (by decide) had rfl rfl (fun Ea109 hk109 hs109 => ?_)
  replace h78 : Ea109 78 = _ := (hs109 78 (by decide)).trans h78
  replace h79 : Ea109 79 = _ := (hs109 79 (by decide)).trans h79
  replace h80 : Ea109 80 = _ := (hs109 80 (by decide)).trans h80
  replace h81 : Ea109 81 = _ := (hs109 81 (by decide)).trans h81
  replace h82 : Ea109 82 = _ := (hs109 82 (by decide)).trans h82
  replace h83 : Ea109 83 = _ := (hs109 83 (by decide)).trans h83
  replace h84 : Ea109 84 = _ := (hs109 84 (by decide)).trans h84
  replace h85 : Ea109 85 = _ := (hs109 85 (by decide)).trans h85
  replace h86 : Ea109 86 = _ := (hs109 86 (by decide)).trans h86
  replace h87 : Ea109 87 = _ := (hs109 87 (by decide)).trans h87
  have h88 : Ea109 88 = aI Γ 1220 (fun _ => 0) := hk109
  replace hF : ∀ j : Nat, j < 78 → Ea109 j = E0 j := fun j hj => (hs109 j (by omega)).trans (hF j hj)
  show J l Γ Ω 1 ad 89 10 1942 Ea109 169 [some (.ref (ad 78))] [.ref (ad 88), .ref (ad 78)]
  refine J_putF (q := 172) (ty := .array .int) X dX10_init_169 gX10_37 rfl (hin rfl) rfl (by decide +kernel) rfl rfl h78 (by decide) (Nat.le_of_ble_eq_true rfl) rfl (fun Ea110 hk110 hs110 => ?_)
  replace h79 : Ea110 79 = _ := (hs110 79 (by decide)).trans h79
  replace h80 : Ea110 80 = _ := (hs110 80 (by decide)).trans h80
  replace h81 : Ea110 81 = _ := (hs110 81 (by decide)).trans h81
  replace h82 : Ea110 82 = _ := (hs110 82 (by decide)).trans h82
  replace h83 : Ea110 83 = _ := (hs110 83 (by decide)).trans h83
  replace h84 : Ea110 84 = _ := (hs110 84 (by decide)).trans h84
  replace h85 : Ea110 85 = _ := (hs110 85 (by decide)).trans h85
  replace h86 : Ea110 86 = _ := (hs110 86 (by decide)).trans h86
  replace h87 : Ea110 87 = _ := (hs110 87 (by decide)).trans h87
  replace h88 : Ea110 88 = _ := (hs110 88 (by decide)).trans h88
  replace h78 : Ea110 78 = .inr (9, [.ref (ad 79), .ref (ad 80), .int (jI 0), .int (jI 0), .int (jI 0), .int (jI 0), .int (jI 0), .int (jI 0), .int (jI 0), .int (jI 0), .int (jI 0), .int (jI 0), .int (jI 0), .int (jI 0), .ref (ad 81), .ref (ad 82), .ref (ad 83), .ref (ad 84), .ref (ad 85), .ref (ad 86), .ref (ad 87), .ref (ad 88), .null, .int (jI 0), .int (jI 0), .null, .null, .null, .null, .null, .int (jI 0)]) := hk110
  replace hF : ∀ j : Nat, j < 78 → Ea110 j = E0 j := fun j hj => (hs110 j (by omega)).trans (hF j hj)
  refine J_aload_n (q := 173) X dX10_init_172 rfl rfl ?_
  refine J_sipush (q := 176) X dX10_init_173 rfl (by decide) ?_
  refine J_newI (q := 178) X 1220 dX10_init_176 wArrI rfl (by decide) (by decide) (by decide) had rfl rfl (fun Ea113 hk113 hs113 => ?_)
  replace h78 : Ea113 78 = _ := (hs113 78 (by decide)).trans h78
  replace h79 : Ea113 79 = _ := (hs113 79 (by decide)).trans h79
  replace h80 : Ea113 80 = _ := (hs113 80 (by decide)).trans h80
  replace h81 : Ea113 81 = _ := (hs113 81 (by decide)).trans h81
  replace h82 : Ea113 82 = _ := (hs113 82 (by decide)).trans h82
  replace h83 : Ea113 83 = _ := (hs113 83 (by decide)).trans h83
  replace h84 : Ea113 84 = _ := (hs113 84 (by decide)).trans h84
  replace h85 : Ea113 85 = _ := (hs113 85 (by decide)).trans h85
  replace h86 : Ea113 86 = _ := (hs113 86 (by decide)).trans h86
  replace h87 : Ea113 87 = _ := (hs113 87 (by decide)).trans h87
  replace h88 : Ea113 88 = _ := (hs113 88 (by decide)).trans h88
  have h89 : Ea113 89 = aI Γ 1220 (fun _ => 0) := hk113
  replace hF : ∀ j : Nat, j < 78 → Ea113 j = E0 j := fun j hj => (hs113 j (by omega)).trans (hF j hj)
  show J l Γ Ω 1 ad 90 11 3162 Ea113 178 [some (.ref (ad 78))] [.ref (ad 89), .ref (ad 78)]
  refine J_putF (q := 181) (ty := .array .int) X dX10_init_178 gX10_40 rfl (hin rfl) rfl (by decide +kernel) rfl rfl h78 (by decide) (Nat.le_of_ble_eq_true rfl) rfl (fun Ea114 hk114 hs114 => ?_)
  replace h79 : Ea114 79 = _ := (hs114 79 (by decide)).trans h79
  replace h80 : Ea114 80 = _ := (hs114 80 (by decide)).trans h80
  replace h81 : Ea114 81 = _ := (hs114 81 (by decide)).trans h81
  replace h82 : Ea114 82 = _ := (hs114 82 (by decide)).trans h82
  replace h83 : Ea114 83 = _ := (hs114 83 (by decide)).trans h83
  replace h84 : Ea114 84 = _ := (hs114 84 (by decide)).trans h84
  replace h85 : Ea114 85 = _ := (hs114 85 (by decide)).trans h85
  replace h86 : Ea114 86 = _ := (hs114 86 (by decide)).trans h86
  replace h87 : Ea114 87 = _ := (hs114 87 (by decide)).trans h87
  replace h88 : Ea114 88 = _ := (hs114 88 (by decide)).trans h88
  replace h89 : Ea114 89 = _ := (hs114 89 (by decide)).trans h89
  replace h78 : Ea114 78 = .inr (9, [.ref (ad 79), .ref (ad 80), .int (jI 0), .int (jI 0), .int (jI 0), .int (jI 0), .int (jI 0), .int (jI 0), .int (jI 0), .int (jI 0), .int (jI 0), .int (jI 0), .int (jI 0), .int (jI 0), .ref (ad 81), .ref (ad 82), .ref (ad 83), .ref (ad 84), .ref (ad 85), .ref (ad 86), .ref (ad 87), .ref (ad 88), .ref (ad 89), .int (jI 0), .int (jI 0), .null, .null, .null, .null, .null, .int (jI 0)]) := hk114
  replace hF : ∀ j : Nat, j < 78 → Ea114 j = E0 j := fun j hj => (hs114 j (by omega)).trans (hF j hj)
  refine J_aload_n (q := 182) X dX10_init_181 rfl rfl ?_
  refine J_bipush (q := 184) X dX10_init_182 rfl (by decide) ?_
  refine J_newI (q := 186) X 120 dX10_init_184 wArrI rfl (by decide) (by decide) (by decide) had rfl rfl (fun Ea117 hk117 hs117 => ?_)
  replace h78 : Ea117 78 = _ := (hs117 78 (by decide)).trans h78
  replace h79 : Ea117 79 = _ := (hs117 79 (by decide)).trans h79
  replace h80 : Ea117 80 = _ := (hs117 80 (by decide)).trans h80
  replace h81 : Ea117 81 = _ := (hs117 81 (by decide)).trans h81
  replace h82 : Ea117 82 = _ := (hs117 82 (by decide)).trans h82
  replace h83 : Ea117 83 = _ := (hs117 83 (by decide)).trans h83
  replace h84 : Ea117 84 = _ := (hs117 84 (by decide)).trans h84
  replace h85 : Ea117 85 = _ := (hs117 85 (by decide)).trans h85
  replace h86 : Ea117 86 = _ := (hs117 86 (by decide)).trans h86
  replace h87 : Ea117 87 = _ := (hs117 87 (by decide)).trans h87
  replace h88 : Ea117 88 = _ := (hs117 88 (by decide)).trans h88
  replace h89 : Ea117 89 = _ := (hs117 89 (by decide)).trans h89
  have h90 : Ea117 90 = aI Γ 120 (fun _ => 0) := hk117
  replace hF : ∀ j : Nat, j < 78 → Ea117 j = E0 j := fun j hj => (hs117 j (by omega)).trans (hF j hj)
  show J l Γ Ω 1 ad 91 12 3282 Ea117 186 [some (.ref (ad 78))] [.ref (ad 90), .ref (ad 78)]
  refine J_putF (q := 189) (ty := .array .int) X dX10_init_186 gX10_43 rfl (hin rfl) rfl (by decide +kernel) rfl rfl h78 (by decide) (Nat.le_of_ble_eq_true rfl) rfl (fun Ea118 hk118 hs118 => ?_)
  replace h79 : Ea118 79 = _ := (hs118 79 (by decide)).trans h79
  replace h80 : Ea118 80 = _ := (hs118 80 (by decide)).trans h80
  replace h81 : Ea118 81 = _ := (hs118 81 (by decide)).trans h81
  replace h82 : Ea118 82 = _ := (hs118 82 (by decide)).trans h82
  replace h83 : Ea118 83 = _ := (hs118 83 (by decide)).trans h83
  replace h84 : Ea118 84 = _ := (hs118 84 (by decide)).trans h84
  replace h85 : Ea118 85 = _ := (hs118 85 (by decide)).trans h85
  replace h86 : Ea118 86 = _ := (hs118 86 (by decide)).trans h86
  replace h87 : Ea118 87 = _ := (hs118 87 (by decide)).trans h87
  replace h88 : Ea118 88 = _ := (hs118 88 (by decide)).trans h88
  replace h89 : Ea118 89 = _ := (hs118 89 (by decide)).trans h89
  replace h90 : Ea118 90 = _ := (hs118 90 (by decide)).trans h90
  replace h78 : Ea118 78 = .inr (9, [.ref (ad 79), .ref (ad 80), .int (jI 0), .int (jI 0), .int (jI 0), .int (jI 0), .int (jI 0), .int (jI 0), .int (jI 0), .int (jI 0), .int (jI 0), .int (jI 0), .int (jI 0), .int (jI 0), .ref (ad 81), .ref (ad 82), .ref (ad 83), .ref (ad 84), .ref (ad 85), .ref (ad 86), .ref (ad 87), .ref (ad 88), .ref (ad 89), .int (jI 0), .int (jI 0), .ref (ad 90), .null, .null, .null, .null, .int (jI 0)]) := hk118
  replace hF : ∀ j : Nat, j < 78 → Ea118 j = E0 j := fun j hj => (hs118 j (by omega)).trans (hF j hj)
  refine J_aload_n (q := 190) X dX10_init_189 rfl rfl ?_
  refine J_iconst (q := 191) X dX10_init_190 rfl ?_
  refine J_newZ (q := 193) X 2 dX10_init_191 wArrZ rfl (by decide) (by decide) (by decide) had rfl rfl (fun Ea121 hk121 hs121 => ?_)
  replace h78 : Ea121 78 = _ := (hs121 78 (by decide)).trans h78
  replace h79 : Ea121 79 = _ := (hs121 79 (by decide)).trans h79
  replace h80 : Ea121 80 = _ := (hs121 80 (by decide)).trans h80
  replace h81 : Ea121 81 = _ := (hs121 81 (by decide)).trans h81
  replace h82 : Ea121 82 = _ := (hs121 82 (by decide)).trans h82
  replace h83 : Ea121 83 = _ := (hs121 83 (by decide)).trans h83
  replace h84 : Ea121 84 = _ := (hs121 84 (by decide)).trans h84
  replace h85 : Ea121 85 = _ := (hs121 85 (by decide)).trans h85
  replace h86 : Ea121 86 = _ := (hs121 86 (by decide)).trans h86
  replace h87 : Ea121 87 = _ := (hs121 87 (by decide)).trans h87
  replace h88 : Ea121 88 = _ := (hs121 88 (by decide)).trans h88
  replace h89 : Ea121 89 = _ := (hs121 89 (by decide)).trans h89
  replace h90 : Ea121 90 = _ := (hs121 90 (by decide)).trans h90
  have h91 : Ea121 91 = aZ Γ 2 (fun _ => 0) := hk121
  replace hF : ∀ j : Nat, j < 78 → Ea121 j = E0 j := fun j hj => (hs121 j (by omega)).trans (hF j hj)
  show J l Γ Ω 1 ad 92 13 3284 Ea121 193 [some (.ref (ad 78))] [.ref (ad 91), .ref (ad 78)]
  refine J_dup (q := 194) X dX10_init_193 rfl rfl ?_
  refine J_iconst (q := 195) X dX10_init_194 rfl ?_
  refine J_iconst (q := 196) X dX10_init_195 rfl ?_
  refine J_zast (q := 197) X dX10_init_196 h91 (by decide) (by decide) (by decide) (by decide) rfl (fun Ea125 hk125 hs125 => ?_)
  replace h78 : Ea125 78 = _ := (hs125 78 (by decide)).trans h78
  replace h79 : Ea125 79 = _ := (hs125 79 (by decide)).trans h79
  replace h80 : Ea125 80 = _ := (hs125 80 (by decide)).trans h80
  replace h81 : Ea125 81 = _ := (hs125 81 (by decide)).trans h81
  replace h82 : Ea125 82 = _ := (hs125 82 (by decide)).trans h82
  replace h83 : Ea125 83 = _ := (hs125 83 (by decide)).trans h83
  replace h84 : Ea125 84 = _ := (hs125 84 (by decide)).trans h84
  replace h85 : Ea125 85 = _ := (hs125 85 (by decide)).trans h85
  replace h86 : Ea125 86 = _ := (hs125 86 (by decide)).trans h86
  replace h87 : Ea125 87 = _ := (hs125 87 (by decide)).trans h87
  replace h88 : Ea125 88 = _ := (hs125 88 (by decide)).trans h88
  replace h89 : Ea125 89 = _ := (hs125 89 (by decide)).trans h89
  replace h90 : Ea125 90 = _ := (hs125 90 (by decide)).trans h90
  replace h91 : Ea125 91 = aZ Γ 2 (iu (fun _ => 0) 0 0) := hk125
  replace hF : ∀ j : Nat, j < 78 → Ea125 j = E0 j := fun j hj => (hs125 j (by omega)).trans (hF j hj)
  refine J_dup (q := 198) X dX10_init_197 rfl rfl ?_
  refine J_iconst (q := 199) X dX10_init_198 rfl ?_
  refine J_iconst (q := 200) X dX10_init_199 rfl ?_
  refine J_zast (q := 201) X dX10_init_200 h91 (by decide) (by decide) (by decide) (by decide) rfl (fun Ea129 hk129 hs129 => ?_)
  replace h78 : Ea129 78 = _ := (hs129 78 (by decide)).trans h78
  replace h79 : Ea129 79 = _ := (hs129 79 (by decide)).trans h79
  replace h80 : Ea129 80 = _ := (hs129 80 (by decide)).trans h80
  replace h81 : Ea129 81 = _ := (hs129 81 (by decide)).trans h81
  replace h82 : Ea129 82 = _ := (hs129 82 (by decide)).trans h82
  replace h83 : Ea129 83 = _ := (hs129 83 (by decide)).trans h83
  replace h84 : Ea129 84 = _ := (hs129 84 (by decide)).trans h84
  replace h85 : Ea129 85 = _ := (hs129 85 (by decide)).trans h85
  replace h86 : Ea129 86 = _ := (hs129 86 (by decide)).trans h86
  replace h87 : Ea129 87 = _ := (hs129 87 (by decide)).trans h87
  replace h88 : Ea129 88 = _ := (hs129 88 (by decide)).trans h88
  replace h89 : Ea129 89 = _ := (hs129 89 (by decide)).trans h89
  replace h90 : Ea129 90 = _ := (hs129 90 (by decide)).trans h90
  replace h91 : Ea129 91 = aZ Γ 2 (iu (iu (fun _ => 0) 0 0) 1 0) := hk129
  replace hF : ∀ j : Nat, j < 78 → Ea129 j = E0 j := fun j hj => (hs129 j (by omega)).trans (hF j hj)
  refine J_putF (q := 204) (ty := .array .boolean) X dX10_init_201 gX10_46 rfl (hin rfl) rfl (by decide +kernel) rfl rfl h78 (by decide) (Nat.le_of_ble_eq_true rfl) rfl (fun Ea130 hk130 hs130 => ?_)
  replace h79 : Ea130 79 = _ := (hs130 79 (by decide)).trans h79
  replace h80 : Ea130 80 = _ := (hs130 80 (by decide)).trans h80
  replace h81 : Ea130 81 = _ := (hs130 81 (by decide)).trans h81
  replace h82 : Ea130 82 = _ := (hs130 82 (by decide)).trans h82
  replace h83 : Ea130 83 = _ := (hs130 83 (by decide)).trans h83
  replace h84 : Ea130 84 = _ := (hs130 84 (by decide)).trans h84
  replace h85 : Ea130 85 = _ := (hs130 85 (by decide)).trans h85
  replace h86 : Ea130 86 = _ := (hs130 86 (by decide)).trans h86
  replace h87 : Ea130 87 = _ := (hs130 87 (by decide)).trans h87
  replace h88 : Ea130 88 = _ := (hs130 88 (by decide)).trans h88
  replace h89 : Ea130 89 = _ := (hs130 89 (by decide)).trans h89
  replace h90 : Ea130 90 = _ := (hs130 90 (by decide)).trans h90
  replace h91 : Ea130 91 = _ := (hs130 91 (by decide)).trans h91
  replace h78 : Ea130 78 = .inr (9, [.ref (ad 79), .ref (ad 80), .int (jI 0), .int (jI 0), .int (jI 0), .int (jI 0), .int (jI 0), .int (jI 0), .int (jI 0), .int (jI 0), .int (jI 0), .int (jI 0), .int (jI 0), .int (jI 0), .ref (ad 81), .ref (ad 82), .ref (ad 83), .ref (ad 84), .ref (ad 85), .ref (ad 86), .ref (ad 87), .ref (ad 88), .ref (ad 89), .int (jI 0), .int (jI 0), .ref (ad 90), .ref (ad 91), .null, .null, .null, .int (jI 0)]) := hk130
  replace hF : ∀ j : Nat, j < 78 → Ea130 j = E0 j := fun j hj => (hs130 j (by omega)).trans (hF j hj)
  refine J_aload_n (q := 205) X dX10_init_204 rfl rfl ?_
  refine J_iconst (q := 206) X dX10_init_205 rfl ?_
  refine J_newI (q := 208) X 4 dX10_init_206 wArrI rfl (by decide) (by decide) (by decide) had rfl rfl (fun Ea133 hk133 hs133 => ?_)
  replace h78 : Ea133 78 = _ := (hs133 78 (by decide)).trans h78
  replace h79 : Ea133 79 = _ := (hs133 79 (by decide)).trans h79
  replace h80 : Ea133 80 = _ := (hs133 80 (by decide)).trans h80
  replace h81 : Ea133 81 = _ := (hs133 81 (by decide)).trans h81
  replace h82 : Ea133 82 = _ := (hs133 82 (by decide)).trans h82
  replace h83 : Ea133 83 = _ := (hs133 83 (by decide)).trans h83
  replace h84 : Ea133 84 = _ := (hs133 84 (by decide)).trans h84
  replace h85 : Ea133 85 = _ := (hs133 85 (by decide)).trans h85
  replace h86 : Ea133 86 = _ := (hs133 86 (by decide)).trans h86
  replace h87 : Ea133 87 = _ := (hs133 87 (by decide)).trans h87
  replace h88 : Ea133 88 = _ := (hs133 88 (by decide)).trans h88
  replace h89 : Ea133 89 = _ := (hs133 89 (by decide)).trans h89
  replace h90 : Ea133 90 = _ := (hs133 90 (by decide)).trans h90
  replace h91 : Ea133 91 = _ := (hs133 91 (by decide)).trans h91
  have h92 : Ea133 92 = aI Γ 4 (fun _ => 0) := hk133
  replace hF : ∀ j : Nat, j < 78 → Ea133 j = E0 j := fun j hj => (hs133 j (by omega)).trans (hF j hj)
  show J l Γ Ω 1 ad 93 14 3288 Ea133 208 [some (.ref (ad 78))] [.ref (ad 92), .ref (ad 78)]
  refine J_dup (q := 209) X dX10_init_208 rfl rfl ?_
  refine J_iconst (q := 210) X dX10_init_209 rfl ?_
  refine J_bipush (q := 212) X dX10_init_210 rfl (by decide) ?_
  refine J_iast (q := 213) X dX10_init_212 h92 (by decide) (by decide) (by decide) rfl (fun Ea137 hk137 hs137 => ?_)
  replace h78 : Ea137 78 = _ := (hs137 78 (by decide)).trans h78
  replace h79 : Ea137 79 = _ := (hs137 79 (by decide)).trans h79
  replace h80 : Ea137 80 = _ := (hs137 80 (by decide)).trans h80
  replace h81 : Ea137 81 = _ := (hs137 81 (by decide)).trans h81
  replace h82 : Ea137 82 = _ := (hs137 82 (by decide)).trans h82
  replace h83 : Ea137 83 = _ := (hs137 83 (by decide)).trans h83
  replace h84 : Ea137 84 = _ := (hs137 84 (by decide)).trans h84
  replace h85 : Ea137 85 = _ := (hs137 85 (by decide)).trans h85
  replace h86 : Ea137 86 = _ := (hs137 86 (by decide)).trans h86
  replace h87 : Ea137 87 = _ := (hs137 87 (by decide)).trans h87
  replace h88 : Ea137 88 = _ := (hs137 88 (by decide)).trans h88
  replace h89 : Ea137 89 = _ := (hs137 89 (by decide)).trans h89
  replace h90 : Ea137 90 = _ := (hs137 90 (by decide)).trans h90
  replace h91 : Ea137 91 = _ := (hs137 91 (by decide)).trans h91
  replace h92 : Ea137 92 = aI Γ 4 (iu (fun _ => 0) 0 (-4)) := hk137
  replace hF : ∀ j : Nat, j < 78 → Ea137 j = E0 j := fun j hj => (hs137 j (by omega)).trans (hF j hj)
  refine J_dup (q := 214) X dX10_init_213 rfl rfl ?_
  refine J_iconst (q := 215) X dX10_init_214 rfl ?_
  refine J_bipush (q := 217) X dX10_init_215 rfl (by decide) ?_
  refine J_iast (q := 218) X dX10_init_217 h92 (by decide) (by decide) (by decide) rfl (fun Ea141 hk141 hs141 => ?_)
  replace h78 : Ea141 78 = _ := (hs141 78 (by decide)).trans h78
  replace h79 : Ea141 79 = _ := (hs141 79 (by decide)).trans h79
  replace h80 : Ea141 80 = _ := (hs141 80 (by decide)).trans h80
  replace h81 : Ea141 81 = _ := (hs141 81 (by decide)).trans h81
  replace h82 : Ea141 82 = _ := (hs141 82 (by decide)).trans h82
  replace h83 : Ea141 83 = _ := (hs141 83 (by decide)).trans h83
  replace h84 : Ea141 84 = _ := (hs141 84 (by decide)).trans h84
  replace h85 : Ea141 85 = _ := (hs141 85 (by decide)).trans h85
  replace h86 : Ea141 86 = _ := (hs141 86 (by decide)).trans h86
  replace h87 : Ea141 87 = _ := (hs141 87 (by decide)).trans h87
  replace h88 : Ea141 88 = _ := (hs141 88 (by decide)).trans h88
  replace h89 : Ea141 89 = _ := (hs141 89 (by decide)).trans h89
  replace h90 : Ea141 90 = _ := (hs141 90 (by decide)).trans h90
  replace h91 : Ea141 91 = _ := (hs141 91 (by decide)).trans h91
  replace h92 : Ea141 92 = aI Γ 4 (iu (iu (fun _ => 0) 0 (-4)) 1 (-4)) := hk141
  replace hF : ∀ j : Nat, j < 78 → Ea141 j = E0 j := fun j hj => (hs141 j (by omega)).trans (hF j hj)
  refine J_dup (q := 219) X dX10_init_218 rfl rfl ?_
  refine J_iconst (q := 220) X dX10_init_219 rfl ?_
  refine J_bipush (q := 222) X dX10_init_220 rfl (by decide) ?_
  refine J_iast (q := 223) X dX10_init_222 h92 (by decide) (by decide) (by decide) rfl (fun Ea145 hk145 hs145 => ?_)
  replace h78 : Ea145 78 = _ := (hs145 78 (by decide)).trans h78
  replace h79 : Ea145 79 = _ := (hs145 79 (by decide)).trans h79
  replace h80 : Ea145 80 = _ := (hs145 80 (by decide)).trans h80
  replace h81 : Ea145 81 = _ := (hs145 81 (by decide)).trans h81
  replace h82 : Ea145 82 = _ := (hs145 82 (by decide)).trans h82
  replace h83 : Ea145 83 = _ := (hs145 83 (by decide)).trans h83
  replace h84 : Ea145 84 = _ := (hs145 84 (by decide)).trans h84
  replace h85 : Ea145 85 = _ := (hs145 85 (by decide)).trans h85
  replace h86 : Ea145 86 = _ := (hs145 86 (by decide)).trans h86
  replace h87 : Ea145 87 = _ := (hs145 87 (by decide)).trans h87
  replace h88 : Ea145 88 = _ := (hs145 88 (by decide)).trans h88
  replace h89 : Ea145 89 = _ := (hs145 89 (by decide)).trans h89
  replace h90 : Ea145 90 = _ := (hs145 90 (by decide)).trans h90
  replace h91 : Ea145 91 = _ := (hs145 91 (by decide)).trans h91
  replace h92 : Ea145 92 = aI Γ 4 (iu (iu (iu (fun _ => 0) 0 (-4)) 1 (-4)) 2 (-4)) := hk145
  replace hF : ∀ j : Nat, j < 78 → Ea145 j = E0 j := fun j hj => (hs145 j (by omega)).trans (hF j hj)
  refine J_dup (q := 224) X dX10_init_223 rfl rfl ?_
  refine J_iconst (q := 225) X dX10_init_224 rfl ?_
  refine J_bipush (q := 227) X dX10_init_225 rfl (by decide) ?_
  refine J_iast (q := 228) X dX10_init_227 h92 (by decide) (by decide) (by decide) rfl (fun Ea149 hk149 hs149 => ?_)
  replace h78 : Ea149 78 = _ := (hs149 78 (by decide)).trans h78
  replace h79 : Ea149 79 = _ := (hs149 79 (by decide)).trans h79
  replace h80 : Ea149 80 = _ := (hs149 80 (by decide)).trans h80
  replace h81 : Ea149 81 = _ := (hs149 81 (by decide)).trans h81
  replace h82 : Ea149 82 = _ := (hs149 82 (by decide)).trans h82
  replace h83 : Ea149 83 = _ := (hs149 83 (by decide)).trans h83
  replace h84 : Ea149 84 = _ := (hs149 84 (by decide)).trans h84
  replace h85 : Ea149 85 = _ := (hs149 85 (by decide)).trans h85
  replace h86 : Ea149 86 = _ := (hs149 86 (by decide)).trans h86
  replace h87 : Ea149 87 = _ := (hs149 87 (by decide)).trans h87
  replace h88 : Ea149 88 = _ := (hs149 88 (by decide)).trans h88
  replace h89 : Ea149 89 = _ := (hs149 89 (by decide)).trans h89
  replace h90 : Ea149 90 = _ := (hs149 90 (by decide)).trans h90
  replace h91 : Ea149 91 = _ := (hs149 91 (by decide)).trans h91
  replace h92 : Ea149 92 = aI Γ 4 (iu (iu (iu (iu (fun _ => 0) 0 (-4)) 1 (-4)) 2 (-4)) 3 (-4)) := hk149
  replace hF : ∀ j : Nat, j < 78 → Ea149 j = E0 j := fun j hj => (hs149 j (by omega)).trans (hF j hj)
  refine J_putF (q := 231) (ty := .array .int) X dX10_init_228 gX10_50 rfl (hin rfl) rfl (by decide +kernel) rfl rfl h78 (by decide) (Nat.le_of_ble_eq_true rfl) rfl (fun Ea150 hk150 hs150 => ?_)
  replace h79 : Ea150 79 = _ := (hs150 79 (by decide)).trans h79
  replace h80 : Ea150 80 = _ := (hs150 80 (by decide)).trans h80
  replace h81 : Ea150 81 = _ := (hs150 81 (by decide)).trans h81
  replace h82 : Ea150 82 = _ := (hs150 82 (by decide)).trans h82
  replace h83 : Ea150 83 = _ := (hs150 83 (by decide)).trans h83
  replace h84 : Ea150 84 = _ := (hs150 84 (by decide)).trans h84
  replace h85 : Ea150 85 = _ := (hs150 85 (by decide)).trans h85
  replace h86 : Ea150 86 = _ := (hs150 86 (by decide)).trans h86
  replace h87 : Ea150 87 = _ := (hs150 87 (by decide)).trans h87
  replace h88 : Ea150 88 = _ := (hs150 88 (by decide)).trans h88
  replace h89 : Ea150 89 = _ := (hs150 89 (by decide)).trans h89
  replace h90 : Ea150 90 = _ := (hs150 90 (by decide)).trans h90
  replace h91 : Ea150 91 = _ := (hs150 91 (by decide)).trans h91
  replace h92 : Ea150 92 = _ := (hs150 92 (by decide)).trans h92
  replace h78 : Ea150 78 = .inr (9, [.ref (ad 79), .ref (ad 80), .int (jI 0), .int (jI 0), .int (jI 0), .int (jI 0), .int (jI 0), .int (jI 0), .int (jI 0), .int (jI 0), .int (jI 0), .int (jI 0), .int (jI 0), .int (jI 0), .ref (ad 81), .ref (ad 82), .ref (ad 83), .ref (ad 84), .ref (ad 85), .ref (ad 86), .ref (ad 87), .ref (ad 88), .ref (ad 89), .int (jI 0), .int (jI 0), .ref (ad 90), .ref (ad 91), .ref (ad 92), .null, .null, .int (jI 0)]) := hk150
  replace hF : ∀ j : Nat, j < 78 → Ea150 j = E0 j := fun j hj => (hs150 j (by omega)).trans (hF j hj)
  refine J_aload_n (q := 232) X dX10_init_231 rfl rfl ?_
  refine J_iconst (q := 233) X dX10_init_232 rfl ?_
  refine J_newI (q := 235) X 4 dX10_init_233 wArrI rfl (by decide) (by decide) (by decide) had rfl rfl (fun Ea153 hk153 hs153 => ?_)
  replace h78 : Ea153 78 = _ := (hs153 78 (by decide)).trans h78
  replace h79 : Ea153 79 = _ := (hs153 79 (by decide)).trans h79
  replace h80 : Ea153 80 = _ := (hs153 80 (by decide)).trans h80
  replace h81 : Ea153 81 = _ := (hs153 81 (by decide)).trans h81
  replace h82 : Ea153 82 = _ := (hs153 82 (by decide)).trans h82
  replace h83 : Ea153 83 = _ := (hs153 83 (by decide)).trans h83
  replace h84 : Ea153 84 = _ := (hs153 84 (by decide)).trans h84
  replace h85 : Ea153 85 = _ := (hs153 85 (by decide)).trans h85
  replace h86 : Ea153 86 = _ := (hs153 86 (by decide)).trans h86
  replace h87 : Ea153 87 = _ := (hs153 87 (by decide)).trans h87
  replace h88 : Ea153 88 = _ := (hs153 88 (by decide)).trans h88
  replace h89 : Ea153 89 = _ := (hs153 89 (by decide)).trans h89
  replace h90 : Ea153 90 = _ := (hs153 90 (by decide)).trans h90
  replace h91 : Ea153 91 = _ := (hs153 91 (by decide)).trans h91
  replace h92 : Ea153 92 = _ := (hs153 92 (by decide)).trans h92
  have h93 : Ea153 93 = aI Γ 4 (fun _ => 0) := hk153
  replace hF : ∀ j : Nat, j < 78 → Ea153 j = E0 j := fun j hj => (hs153 j (by omega)).trans (hF j hj)
  show J l Γ Ω 1 ad 94 15 3292 Ea153 235 [some (.ref (ad 78))] [.ref (ad 93), .ref (ad 78)]
  refine J_dup (q := 236) X dX10_init_235 rfl rfl ?_
  refine J_iconst (q := 237) X dX10_init_236 rfl ?_
  refine J_iconst (q := 238) X dX10_init_237 rfl ?_
  refine J_iast (q := 239) X dX10_init_238 h93 (by decide) (by decide) (by decide) rfl (fun Ea157 hk157 hs157 => ?_)
  replace h78 : Ea157 78 = _ := (hs157 78 (by decide)).trans h78
  replace h79 : Ea157 79 = _ := (hs157 79 (by decide)).trans h79
  replace h80 : Ea157 80 = _ := (hs157 80 (by decide)).trans h80
  replace h81 : Ea157 81 = _ := (hs157 81 (by decide)).trans h81
  replace h82 : Ea157 82 = _ := (hs157 82 (by decide)).trans h82
  replace h83 : Ea157 83 = _ := (hs157 83 (by decide)).trans h83
  replace h84 : Ea157 84 = _ := (hs157 84 (by decide)).trans h84
  replace h85 : Ea157 85 = _ := (hs157 85 (by decide)).trans h85
  replace h86 : Ea157 86 = _ := (hs157 86 (by decide)).trans h86
  replace h87 : Ea157 87 = _ := (hs157 87 (by decide)).trans h87
  replace h88 : Ea157 88 = _ := (hs157 88 (by decide)).trans h88
  replace h89 : Ea157 89 = _ := (hs157 89 (by decide)).trans h89
  replace h90 : Ea157 90 = _ := (hs157 90 (by decide)).trans h90
  replace h91 : Ea157 91 = _ := (hs157 91 (by decide)).trans h91
  replace h92 : Ea157 92 = _ := (hs157 92 (by decide)).trans h92
  replace h93 : Ea157 93 = aI Γ 4 (iu (fun _ => 0) 0 0) := hk157
  replace hF : ∀ j : Nat, j < 78 → Ea157 j = E0 j := fun j hj => (hs157 j (by omega)).trans (hF j hj)
  refine J_dup (q := 240) X dX10_init_239 rfl rfl ?_
  refine J_iconst (q := 241) X dX10_init_240 rfl ?_
  refine J_iconst (q := 242) X dX10_init_241 rfl ?_
  refine J_iast (q := 243) X dX10_init_242 h93 (by decide) (by decide) (by decide) rfl (fun Ea161 hk161 hs161 => ?_)
  replace h78 : Ea161 78 = _ := (hs161 78 (by decide)).trans h78
  replace h79 : Ea161 79 = _ := (hs161 79 (by decide)).trans h79
  replace h80 : Ea161 80 = _ := (hs161 80 (by decide)).trans h80
  replace h81 : Ea161 81 = _ := (hs161 81 (by decide)).trans h81
  replace h82 : Ea161 82 = _ := (hs161 82 (by decide)).trans h82
  replace h83 : Ea161 83 = _ := (hs161 83 (by decide)).trans h83
  replace h84 : Ea161 84 = _ := (hs161 84 (by decide)).trans h84
  replace h85 : Ea161 85 = _ := (hs161 85 (by decide)).trans h85
  replace h86 : Ea161 86 = _ := (hs161 86 (by decide)).trans h86
  replace h87 : Ea161 87 = _ := (hs161 87 (by decide)).trans h87
  replace h88 : Ea161 88 = _ := (hs161 88 (by decide)).trans h88
  replace h89 : Ea161 89 = _ := (hs161 89 (by decide)).trans h89
  replace h90 : Ea161 90 = _ := (hs161 90 (by decide)).trans h90
  replace h91 : Ea161 91 = _ := (hs161 91 (by decide)).trans h91
  replace h92 : Ea161 92 = _ := (hs161 92 (by decide)).trans h92
  replace h93 : Ea161 93 = aI Γ 4 (iu (iu (fun _ => 0) 0 0) 1 0) := hk161
  replace hF : ∀ j : Nat, j < 78 → Ea161 j = E0 j := fun j hj => (hs161 j (by omega)).trans (hF j hj)
  refine J_dup (q := 244) X dX10_init_243 rfl rfl ?_
  refine J_iconst (q := 245) X dX10_init_244 rfl ?_
  refine J_iconst (q := 246) X dX10_init_245 rfl ?_
  refine J_iast (q := 247) X dX10_init_246 h93 (by decide) (by decide) (by decide) rfl (fun Ea165 hk165 hs165 => ?_)
  replace h78 : Ea165 78 = _ := (hs165 78 (by decide)).trans h78
  replace h79 : Ea165 79 = _ := (hs165 79 (by decide)).trans h79
  replace h80 : Ea165 80 = _ := (hs165 80 (by decide)).trans h80
  replace h81 : Ea165 81 = _ := (hs165 81 (by decide)).trans h81
  replace h82 : Ea165 82 = _ := (hs165 82 (by decide)).trans h82
  replace h83 : Ea165 83 = _ := (hs165 83 (by decide)).trans h83
  replace h84 : Ea165 84 = _ := (hs165 84 (by decide)).trans h84
  replace h85 : Ea165 85 = _ := (hs165 85 (by decide)).trans h85
  replace h86 : Ea165 86 = _ := (hs165 86 (by decide)).trans h86
  replace h87 : Ea165 87 = _ := (hs165 87 (by decide)).trans h87
  replace h88 : Ea165 88 = _ := (hs165 88 (by decide)).trans h88
  replace h89 : Ea165 89 = _ := (hs165 89 (by decide)).trans h89
  replace h90 : Ea165 90 = _ := (hs165 90 (by decide)).trans h90
  replace h91 : Ea165 91 = _ := (hs165 91 (by decide)).trans h91
  replace h92 : Ea165 92 = _ := (hs165 92 (by decide)).trans h92
  replace h93 : Ea165 93 = aI Γ 4 (iu (iu (iu (fun _ => 0) 0 0) 1 0) 2 0) := hk165
  replace hF : ∀ j : Nat, j < 78 → Ea165 j = E0 j := fun j hj => (hs165 j (by omega)).trans (hF j hj)
  refine J_dup (q := 248) X dX10_init_247 rfl rfl ?_
  refine J_iconst (q := 249) X dX10_init_248 rfl ?_
  refine J_iconst (q := 250) X dX10_init_249 rfl ?_
  refine J_iast (q := 251) X dX10_init_250 h93 (by decide) (by decide) (by decide) rfl (fun Ea169 hk169 hs169 => ?_)
  replace h78 : Ea169 78 = _ := (hs169 78 (by decide)).trans h78
  replace h79 : Ea169 79 = _ := (hs169 79 (by decide)).trans h79
  replace h80 : Ea169 80 = _ := (hs169 80 (by decide)).trans h80
  replace h81 : Ea169 81 = _ := (hs169 81 (by decide)).trans h81
  replace h82 : Ea169 82 = _ := (hs169 82 (by decide)).trans h82
  replace h83 : Ea169 83 = _ := (hs169 83 (by decide)).trans h83
  replace h84 : Ea169 84 = _ := (hs169 84 (by decide)).trans h84
  replace h85 : Ea169 85 = _ := (hs169 85 (by decide)).trans h85
  replace h86 : Ea169 86 = _ := (hs169 86 (by decide)).trans h86
  replace h87 : Ea169 87 = _ := (hs169 87 (by decide)).trans h87
  replace h88 : Ea169 88 = _ := (hs169 88 (by decide)).trans h88
  replace h89 : Ea169 89 = _ := (hs169 89 (by decide)).trans h89
  replace h90 : Ea169 90 = _ := (hs169 90 (by decide)).trans h90
  replace h91 : Ea169 91 = _ := (hs169 91 (by decide)).trans h91
  replace h92 : Ea169 92 = _ := (hs169 92 (by decide)).trans h92
  replace h93 : Ea169 93 = aI Γ 4 (iu (iu (iu (iu (fun _ => 0) 0 0) 1 0) 2 0) 3 0) := hk169
  replace hF : ∀ j : Nat, j < 78 → Ea169 j = E0 j := fun j hj => (hs169 j (by omega)).trans (hF j hj)
  refine J_putF (q := 254) (ty := .array .int) X dX10_init_251 gX10_53 rfl (hin rfl) rfl (by decide +kernel) rfl rfl h78 (by decide) (Nat.le_of_ble_eq_true rfl) rfl (fun Ea170 hk170 hs170 => ?_)
  replace h79 : Ea170 79 = _ := (hs170 79 (by decide)).trans h79
  replace h80 : Ea170 80 = _ := (hs170 80 (by decide)).trans h80
  replace h81 : Ea170 81 = _ := (hs170 81 (by decide)).trans h81
  replace h82 : Ea170 82 = _ := (hs170 82 (by decide)).trans h82
  replace h83 : Ea170 83 = _ := (hs170 83 (by decide)).trans h83
  replace h84 : Ea170 84 = _ := (hs170 84 (by decide)).trans h84
  replace h85 : Ea170 85 = _ := (hs170 85 (by decide)).trans h85
  replace h86 : Ea170 86 = _ := (hs170 86 (by decide)).trans h86
  replace h87 : Ea170 87 = _ := (hs170 87 (by decide)).trans h87
  replace h88 : Ea170 88 = _ := (hs170 88 (by decide)).trans h88
  replace h89 : Ea170 89 = _ := (hs170 89 (by decide)).trans h89
  replace h90 : Ea170 90 = _ := (hs170 90 (by decide)).trans h90
  replace h91 : Ea170 91 = _ := (hs170 91 (by decide)).trans h91
  replace h92 : Ea170 92 = _ := (hs170 92 (by decide)).trans h92
  replace h93 : Ea170 93 = _ := (hs170 93 (by decide)).trans h93
  replace h78 : Ea170 78 = .inr (9, [.ref (ad 79), .ref (ad 80), .int (jI 0), .int (jI 0), .int (jI 0), .int (jI 0), .int (jI 0), .int (jI 0), .int (jI 0), .int (jI 0), .int (jI 0), .int (jI 0), .int (jI 0), .int (jI 0), .ref (ad 81), .ref (ad 82), .ref (ad 83), .ref (ad 84), .ref (ad 85), .ref (ad 86), .ref (ad 87), .ref (ad 88), .ref (ad 89), .int (jI 0), .int (jI 0), .ref (ad 90), .ref (ad 91), .ref (ad 92), .ref (ad 93), .null, .int (jI 0)]) := hk170
  replace hF : ∀ j : Nat, j < 78 → Ea170 j = E0 j := fun j hj => (hs170 j (by omega)).trans (hF j hj)
  refine J_aload_n (q := 255) X dX10_init_254 rfl rfl ?_
  refine J_sipush (q := 258) X dX10_init_255 rfl (by decide) ?_
  refine J_newI (q := 260) X 160 dX10_init_258 wArrI rfl (by decide) (by decide) (by decide) had rfl rfl (fun Ea173 hk173 hs173 => ?_)
  replace h78 : Ea173 78 = _ := (hs173 78 (by decide)).trans h78
  replace h79 : Ea173 79 = _ := (hs173 79 (by decide)).trans h79
  replace h80 : Ea173 80 = _ := (hs173 80 (by decide)).trans h80
  replace h81 : Ea173 81 = _ := (hs173 81 (by decide)).trans h81
  replace h82 : Ea173 82 = _ := (hs173 82 (by decide)).trans h82
  replace h83 : Ea173 83 = _ := (hs173 83 (by decide)).trans h83
  replace h84 : Ea173 84 = _ := (hs173 84 (by decide)).trans h84
  replace h85 : Ea173 85 = _ := (hs173 85 (by decide)).trans h85
  replace h86 : Ea173 86 = _ := (hs173 86 (by decide)).trans h86
  replace h87 : Ea173 87 = _ := (hs173 87 (by decide)).trans h87
  replace h88 : Ea173 88 = _ := (hs173 88 (by decide)).trans h88
  replace h89 : Ea173 89 = _ := (hs173 89 (by decide)).trans h89
  replace h90 : Ea173 90 = _ := (hs173 90 (by decide)).trans h90
  replace h91 : Ea173 91 = _ := (hs173 91 (by decide)).trans h91
  replace h92 : Ea173 92 = _ := (hs173 92 (by decide)).trans h92
  replace h93 : Ea173 93 = _ := (hs173 93 (by decide)).trans h93
  have h94 : Ea173 94 = aI Γ 160 (fun _ => 0) := hk173
  replace hF : ∀ j : Nat, j < 78 → Ea173 j = E0 j := fun j hj => (hs173 j (by omega)).trans (hF j hj)
  show J l Γ Ω 1 ad 95 16 3452 Ea173 260 [some (.ref (ad 78))] [.ref (ad 94), .ref (ad 78)]
  refine J_putF (q := 263) (ty := .array .int) X dX10_init_260 gX10_56 rfl (hin rfl) rfl (by decide +kernel) rfl rfl h78 (by decide) (Nat.le_of_ble_eq_true rfl) rfl (fun Ea174 hk174 hs174 => ?_)
  replace h79 : Ea174 79 = _ := (hs174 79 (by decide)).trans h79
  replace h80 : Ea174 80 = _ := (hs174 80 (by decide)).trans h80
  replace h81 : Ea174 81 = _ := (hs174 81 (by decide)).trans h81
  replace h82 : Ea174 82 = _ := (hs174 82 (by decide)).trans h82
  replace h83 : Ea174 83 = _ := (hs174 83 (by decide)).trans h83
  replace h84 : Ea174 84 = _ := (hs174 84 (by decide)).trans h84
  replace h85 : Ea174 85 = _ := (hs174 85 (by decide)).trans h85
  replace h86 : Ea174 86 = _ := (hs174 86 (by decide)).trans h86
  replace h87 : Ea174 87 = _ := (hs174 87 (by decide)).trans h87
  replace h88 : Ea174 88 = _ := (hs174 88 (by decide)).trans h88
  replace h89 : Ea174 89 = _ := (hs174 89 (by decide)).trans h89
  replace h90 : Ea174 90 = _ := (hs174 90 (by decide)).trans h90
  replace h91 : Ea174 91 = _ := (hs174 91 (by decide)).trans h91
  replace h92 : Ea174 92 = _ := (hs174 92 (by decide)).trans h92
  replace h93 : Ea174 93 = _ := (hs174 93 (by decide)).trans h93
  replace h94 : Ea174 94 = _ := (hs174 94 (by decide)).trans h94
  replace h78 : Ea174 78 = .inr (9, [.ref (ad 79), .ref (ad 80), .int (jI 0), .int (jI 0), .int (jI 0), .int (jI 0), .int (jI 0), .int (jI 0), .int (jI 0), .int (jI 0), .int (jI 0), .int (jI 0), .int (jI 0), .int (jI 0), .ref (ad 81), .ref (ad 82), .ref (ad 83), .ref (ad 84), .ref (ad 85), .ref (ad 86), .ref (ad 87), .ref (ad 88), .ref (ad 89), .int (jI 0), .int (jI 0), .ref (ad 90), .ref (ad 91), .ref (ad 92), .ref (ad 93), .ref (ad 94), .int (jI 0)]) := hk174
  replace hF : ∀ j : Nat, j < 78 → Ea174 j = E0 j := fun j hj => (hs174 j (by omega)).trans (hF j hj)
  rw [hE0] at hF
  refine J_vret X R dX10_init_263 ?_
  exact ⟨rfl, h78, h79, h80, h81, h82, h83, h84, h85, h86, h87, h88, h89, h90, h91, h92, h93, h94, hF⟩
