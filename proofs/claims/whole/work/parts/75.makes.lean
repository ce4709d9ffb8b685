/-! what is made: constructors -/
theorem J_cast {l : Launch} {Γ : JG} {Ω : JO} {nL : Nat} {ad : Nat → Nat} {N k n N' k' n' : Nat} {E : Nat → va_E} {pc : Nat} {L : List (Option Value)} {st : List Value} (h1 : N = N') (h2 : k = k') (h3 : n = n') (kk : J l Γ Ω nL ad N' k' n' E pc L st) : J l Γ Ω nL ad N k n E pc L st := by
  subst h1 h2 h3; exact kk
theorem JMA_post {l : Launch} {Γ : JG} {y : MethodName} {cc : ByteArray} {nL : Nat} {ret : Option FieldType} {fr lo mc ms : Nat} {ad : Nat → Nat} {N : Nat} {E : Nat → va_E} {av : List Value} {post post' : Option Value → (Nat → va_E) → Prop} (h : JMA l Γ y cc nL ret fr lo mc ms ad N E av post) (hw : ∀ rv E', post rv E' → post' rv E') : JMA l Γ y cc nL ret fr lo mc ms ad N E av post' := by
  intro p e h1 h2 h3 s m args below h4 h5 h6 h7
  obtain ⟨n, o, a1, a2, a3, ⟨⟨rv, E', hv, hp, hj⟩, hf⟩, hl⟩ := h p e h1 h2 h3 s m args below h4 h5 h6 h7
  exact ⟨n, o, a1, a2, a3, ⟨⟨rv, E', hv, hw _ _ hp, hj⟩, hf⟩, hl⟩
/-- an array of references by another function that is the same within it -/
theorem J_extR {l : Launch} {Γ : JG} {Ω : JO} {nL : Nat} {ad : Nat → Nat} {N k n : Nat} {E : Nat → va_E} {pc : Nat} {L : List (Option Value)} {st : List Value} {i c M : Nat} {f f' : Nat → Option Nat} (he : E i = aR Γ c M f) (hi : i < N) (hf : ∀ j, j < M → f j = f' j) (kk : ∀ E' : Nat → va_E, E' i = aR Γ c M f' → (∀ j, j ≠ i → E' j = E j) → J l Γ Ω nL ad N k n E' pc L st) : J l Γ Ω nL ad N k n E pc L st := by
  intro H locs ls hl hw hS
  refine kk (va_up E i (aR Γ c M f')) jup_self jup_ne H locs ls hl ?_ hS
  obtain ⟨hp, hd⟩ := hw
  have hcell : vp_cell (Γ.2.2.1 c) ((M, .inr (.inr (.inr (.inr f)))) : vp_A) = vp_cell (Γ.2.2.1 c) ((M, .inr (.inr (.inr (.inr f')))) : vp_A) := by
    rw [vp_cell_q, vp_cell_q]
    unfold arrV
    congr 1
    apply Array.ext
    · simp
    · intro j h1 h2
      have hj : j < M := by simpa using h1
      simp [hf j hj]
  have hat := hp i _ (jws_get hi)
  rw [he] at hat
  have hnew : va_at Γ.2.1 vwCl (ad i, aR Γ c M f') H := by
    show H[ad i]? = some (vp_cell (Γ.2.2.1 c) ((M, .inr (.inr (.inr (.inr f')))) : vp_A))
    rw [← hcell]; exact hat
  refine ⟨fun x q hx => ?_, ?_⟩
  · have hxN : x < N := by
      have := (List.getElem?_eq_some_iff.mp hx).1
      simpa [jws] using this
    rw [jws_get hxN] at hx
    cases hx
    by_cases hxi : x = i
    · subst hxi
      rw [jup_self]; exact hnew
    · have e : va_up E i (aR Γ c M f') x = E x := jup_ne x hxi
      rw [e]
      exact hp x _ (jws_get hxN)
  · have key : ∀ (x : Nat) (q : Nat × va_E), (jws ad N (va_up E i (aR Γ c M f')))[x]? = some q → ∃ q' : Nat × va_E, (jws ad N E)[x]? = some q' ∧ q'.1 = q.1 := by
      intro x q hx
      have hxN : x < N := by
        have := (List.getElem?_eq_some_iff.mp hx).1
        simpa [jws] using this
      rw [jws_get hxN] at hx
      cases hx
      exact ⟨_, jws_get hxN, rfl⟩
    refine ⟨fun a b p q ha hb hpq => ?_, fun x q hx => ?_⟩
    · obtain ⟨p', hp', e1⟩ := key a p ha
      obtain ⟨q', hq', e2⟩ := key b q hb
      exact hd.1 a b p' q' hp' hq' (by rw [e1, e2]; exact hpq)
    · obtain ⟨q', hq', e1⟩ := key x q hx
      rw [← e1]; exact hd.2 x q' hq'
set_option maxRecDepth 100000 in
theorem c_X3_init {l : Launch} {Γ : JG} {ad : Nat → Nat} {N i : Nat} {E : Nat → va_E} (hi : i < N) (hO : E i = .inr (3, [.null, .int (jI 0)])) : JMA l Γ yX3_init cX3_init 1 none 1 20 1 60 ad N E [.ref (ad i)] (pV (fun E' => E' i = .inr (3, [.ref (ad N), .int (jI 0)]) ∧ E' N = aI Γ 60 (fun _ => 0) ∧ ∀ j : Nat, j ≠ i → j ≠ N → E' j = E j)) := by
  refine JMA_intro (own := RX3) [some (.ref (ad i))] rfl rfl rfl (Nat.le_of_ble_eq_true rfl) ?_
  intro Ω X R hin had
  refine J_aload_n (q := 1) X dX3_init_0 rfl rfl ?_
  refine J_objInit (q := 4) X dX3_init_1 mX3_3 wObj1 wObj2 (by decide) (by decide) rfl ?_
  refine J_aload_n (q := 5) X dX3_init_4 rfl rfl ?_
  refine J_bipush (q := 7) X dX3_init_5 rfl (by decide) ?_
  refine J_newI (q := 9) X 60 dX3_init_7 wArrI rfl (by decide) (by decide) (by decide) had rfl rfl (fun E1 hk1 hs1 => ?_)
  replace hO := (hs1 i (by omega)).trans hO
  refine J_putF (q := 12) (ty := .array .int) X dX3_init_9 gX3_9 rfl (hin rfl) rfl (by decide +kernel) rfl rfl hO (by omega) (Nat.le_of_ble_eq_true rfl) rfl (fun E2 hk2 hs2 => ?_)
  replace hk1 := (hs2 N (by omega)).trans hk1
  refine J_vret X R dX3_init_12 ?_
  exact ⟨rfl, hk2, hk1, fun j h1 h2 => (hs2 j h1).trans (hs1 j h2)⟩
set_option maxRecDepth 100000 in
theorem c_X4_init {l : Launch} {Γ : JG} {ad : Nat → Nat} {N i : Nat} {E : Nat → va_E} (hi : i < N) (hO : E i = .inr (4, [.null, .int (jI 0), .int (jI 0), .int (jI 0)])) : JMA l Γ yX4_init cX4_init 1 none 1 20 1 40 ad N E [.ref (ad i)] (pV (fun E' => E' i = .inr (4, [.ref (ad N), .int (jI 0), .int (jI 0), .int (jI 0)]) ∧ E' N = aI Γ 40 (fun _ => 0) ∧ ∀ j : Nat, j ≠ i → j ≠ N → E' j = E j)) := by
  refine JMA_intro (own := RX4) [some (.ref (ad i))] rfl rfl rfl (Nat.le_of_ble_eq_true rfl) ?_
  intro Ω X R hin had
  refine J_aload_n (q := 1) X dX4_init_0 rfl rfl ?_
  refine J_objInit (q := 4) X dX4_init_1 mX4_3 wObj1 wObj2 (by decide) (by decide) rfl ?_
  refine J_aload_n (q := 5) X dX4_init_4 rfl rfl ?_
  refine J_bipush (q := 7) X dX4_init_5 rfl (by decide) ?_
  refine J_newI (q := 9) X 40 dX4_init_7 wArrI rfl (by decide) (by decide) (by decide) had rfl rfl (fun E1 hk1 hs1 => ?_)
  replace hO := (hs1 i (by omega)).trans hO
  refine J_putF (q := 12) (ty := .array .int) X dX4_init_9 gX4_9 rfl (hin rfl) rfl (by decide +kernel) rfl rfl hO (by omega) (Nat.le_of_ble_eq_true rfl) rfl (fun E2 hk2 hs2 => ?_)
  replace hk1 := (hs2 N (by omega)).trans hk1
  refine J_vret X R dX4_init_12 ?_
  exact ⟨rfl, hk2, hk1, fun j h1 h2 => (hs2 j h1).trans (hs1 j h2)⟩
set_option maxRecDepth 100000 in
theorem c_X6_init {l : Launch} {Γ : JG} {ad : Nat → Nat} {N i : Nat} {E : Nat → va_E} (hi : i < N) (hO : E i = .inr (5, [.null, .int (jI 0)])) : JMA l Γ yX6_init cX6_init 1 none 1 20 1 160 ad N E [.ref (ad i)] (pV (fun E' => E' i = .inr (5, [.ref (ad N), .int (jI 0)]) ∧ E' N = aI Γ 160 (fun _ => 0) ∧ ∀ j : Nat, j ≠ i → j ≠ N → E' j = E j)) := by
  refine JMA_intro (own := RX6) [some (.ref (ad i))] rfl rfl rfl (Nat.le_of_ble_eq_true rfl) ?_
  intro Ω X R hin had
  refine J_aload_n (q := 1) X dX6_init_0 rfl rfl ?_
  refine J_objInit (q := 4) X dX6_init_1 mX6_3 wObj1 wObj2 (by decide) (by decide) rfl ?_
  refine J_aload_n (q := 5) X dX6_init_4 rfl rfl ?_
  refine J_sipush (q := 8) X dX6_init_5 rfl (by decide) ?_
  refine J_newI (q := 10) X 160 dX6_init_8 wArrI rfl (by decide) (by decide) (by decide) had rfl rfl (fun E1 hk1 hs1 => ?_)
  replace hO := (hs1 i (by omega)).trans hO
  refine J_putF (q := 13) (ty := .array .int) X dX6_init_10 gX6_9 rfl (hin rfl) rfl (by decide +kernel) rfl rfl hO (by omega) (Nat.le_of_ble_eq_true rfl) rfl (fun E2 hk2 hs2 => ?_)
  replace hk1 := (hs2 N (by omega)).trans hk1
  refine J_vret X R dX6_init_13 ?_
  exact ⟨rfl, hk2, hk1, fun j h1 h2 => (hs2 j h1).trans (hs1 j h2)⟩
set_option maxRecDepth 100000 in
set_option maxHeartbeats 8000000 in
theorem c_X0_init {l : Launch} {Γ : JG} {ad : Nat → Nat} {E : Nat → va_E} (h5 : E 5 = .inr (0, [.int (jI 0), .int (jI 0), .int (jI 0), .int (jI 0), .int (jI 0)])) : JMA l Γ yX0_init cX0_init 1 none 1 20 0 0 ad 6 E [.ref (ad 5)] (pV (fun E' => E' 5 = .inr (0, [.int (jI 0), .int (jI 0), .int (jI 0), .int (jI 0), .int (jI 0)]) ∧ ∀ j : Nat, j < 5 → E' j = E j)) := by
  refine JMA_intro (own := RX0) [some (.ref (ad 5))] rfl rfl rfl (Nat.le_of_ble_eq_true rfl) ?_
  intro Ω X R hin had
  obtain ⟨E0, hE0⟩ : ∃ E0 : Nat → va_E, E0 = E := ⟨_, rfl⟩
  have hF : ∀ j : Nat, j < 5 → E j = E0 j := fun _ _ => by rw [hE0]
  refine J_aload_n (q := 1) X dX0_init_0 rfl rfl ?_
  refine J_objInit (q := 4) X dX0_init_1 mX0_3 wObj1 wObj2 (by decide) (by decide) rfl ?_
  rw [hE0] at hF
  refine J_vret X R dX0_init_4 ?_
  exact ⟨rfl, h5, hF⟩
set_option maxRecDepth 100000 in
set_option maxHeartbeats 8000000 in
theorem c_X8_init {l : Launch} {Γ : JG} {ad : Nat → Nat} {E : Nat → va_E} (h2 : E 2 = .inr (7, [.null, .null, .int (jI 0), .int (jI 0), .int (jI 0), .int (jI 0)])) : JMA l Γ yX8_init cX8_init 1 none 2 40 3 167 ad 3 E [.ref (ad 2)] (pV (fun E' => E' 2 = .inr (7, [.ref (ad 3), .ref (ad 5), .int (jI 0), .int (jI 0), .int (jI 0), .int (jI 0)]) ∧ E' 3 = .inr (5, [.ref (ad 4), .int (jI 0)]) ∧ E' 4 = aI Γ 160 (fun _ => 0) ∧ E' 5 = .inr (0, [.int (jI 0), .int (jI 0), .int (jI 0), .int (jI 0), .int (jI 0)]) ∧ ∀ j : Nat, j < 2 → E' j = E j)) := by
  refine JMA_intro (own := RX8) [some (.ref (ad 2))] rfl rfl rfl (Nat.le_of_ble_eq_true rfl) ?_
  intro Ω X R hin had
  obtain ⟨E0, hE0⟩ : ∃ E0 : Nat → va_E, E0 = E := ⟨_, rfl⟩
  have hF : ∀ j : Nat, j < 2 → E j = E0 j := fun _ _ => by rw [hE0]
  refine J_aload_n (q := 1) X dX8_init_0 rfl rfl ?_
  refine J_objInit (q := 4) X dX8_init_1 mX8_1 wObj1 wObj2 (by decide) (by decide) rfl ?_
  refine J_aload_n (q := 5) X dX8_init_4 rfl rfl ?_
  refine J_new (q := 8) X tyX6 [.null, .int (jI 0)] dX8_init_5 ⟨nX8_7, iRX6.1, iRX6.2⟩ clRX6 tyX6_ok (by decide +kernel) (by decide) (by decide) had rfl rfl (fun Ea4 hk4 hs4 => ?_)
  replace h2 : Ea4 2 = _ := (hs4 2 (by decide)).trans h2
  have h3 : Ea4 3 = .inr (5, [.null, .int (jI 0)]) := hk4
  replace hF : ∀ j : Nat, j < 2 → Ea4 j = E0 j := fun j hj => (hs4 j (by omega)).trans (hF j hj)
  show J l Γ Ω 1 ad 4 1 2 Ea4 8 [some (.ref (ad 2))] [.ref (ad 3), .ref (ad 2)]
  refine J_dup (q := 9) X dX8_init_8 rfl rfl ?_
  refine jrI (q := 12) X mX8_9 dX8_init_9 (c_X6_init (by decide) h3) had rfl rfl rfl (Nat.le_of_ble_eq_true rfl) ⟨by decide, by decide, by decide, by decide⟩ rfl (fun rv Ea6 hp => ?_)
  obtain ⟨rfl, hk6, hk6b, hs6⟩ := hp
  replace h2 : Ea6 2 = _ := (hs6 2 (by decide) (by decide)).trans h2
  replace h3 : Ea6 3 = .inr (5, [.ref (ad 4), .int (jI 0)]) := hk6
  have h4 : Ea6 4 = aI Γ 160 (fun _ => 0) := hk6b
  replace hF : ∀ j : Nat, j < 2 → Ea6 j = E0 j := fun j hj => (hs6 j (by omega) (by omega)).trans (hF j hj)
  show J l Γ Ω 1 ad 5 2 162 Ea6 12 [some (.ref (ad 2))] [.ref (ad 3), .ref (ad 2)]
  refine J_putF (q := 15) (ty := .object "FoldKeeper$Tape") X dX8_init_12 gX8_10 rfl (hin rfl) rfl (by decide +kernel) rfl rfl h2 (by decide) (Nat.le_of_ble_eq_true rfl) rfl (fun Ea7 hk7 hs7 => ?_)
  replace h3 : Ea7 3 = _ := (hs7 3 (by decide)).trans h3
  replace h4 : Ea7 4 = _ := (hs7 4 (by decide)).trans h4
  replace h2 : Ea7 2 = .inr (7, [.ref (ad 3), .null, .int (jI 0), .int (jI 0), .int (jI 0), .int (jI 0)]) := hk7
  replace hF : ∀ j : Nat, j < 2 → Ea7 j = E0 j := fun j hj => (hs7 j (by omega)).trans (hF j hj)
  refine J_aload_n (q := 16) X dX8_init_15 rfl rfl ?_
  refine J_new (q := 19) X tyX0 [.int (jI 0), .int (jI 0), .int (jI 0), .int (jI 0), .int (jI 0)] dX8_init_16 ⟨nX8_16, iRX0.1, iRX0.2⟩ clRX0 tyX0_ok (by decide +kernel) (by decide) (by decide) had rfl rfl (fun Ea9 hk9 hs9 => ?_)
  replace h2 : Ea9 2 = _ := (hs9 2 (by decide)).trans h2
  replace h3 : Ea9 3 = _ := (hs9 3 (by decide)).trans h3
  replace h4 : Ea9 4 = _ := (hs9 4 (by decide)).trans h4
  have h5 : Ea9 5 = .inr (0, [.int (jI 0), .int (jI 0), .int (jI 0), .int (jI 0), .int (jI 0)]) := hk9
  replace hF : ∀ j : Nat, j < 2 → Ea9 j = E0 j := fun j hj => (hs9 j (by omega)).trans (hF j hj)
  show J l Γ Ω 1 ad 6 3 167 Ea9 19 [some (.ref (ad 2))] [.ref (ad 5), .ref (ad 2)]
  refine J_dup (q := 20) X dX8_init_19 rfl rfl ?_
  refine jrI (q := 23) X mX8_18 dX8_init_20 (c_X0_init h5) had rfl rfl rfl (Nat.le_of_ble_eq_true rfl) ⟨by decide, by decide, by decide, by decide⟩ rfl (fun rv Ea11 hp => ?_)
  obtain ⟨rfl, k5, hs11⟩ := hp
  replace h2 : Ea11 2 = _ := (hs11 2 (by decide)).trans h2
  replace h3 : Ea11 3 = _ := (hs11 3 (by decide)).trans h3
  replace h4 : Ea11 4 = _ := (hs11 4 (by decide)).trans h4
  replace h5 := k5
  replace hF : ∀ j : Nat, j < 2 → Ea11 j = E0 j := fun j hj => (hs11 j (by omega)).trans (hF j hj)
  show J l Γ Ω 1 ad 6 3 167 Ea11 23 [some (.ref (ad 2))] [.ref (ad 5), .ref (ad 2)]
  refine J_putF (q := 26) (ty := .object "FoldKeeper$Blame") X dX8_init_23 gX8_19 rfl (hin rfl) rfl (by decide +kernel) rfl rfl h2 (by decide) (Nat.le_of_ble_eq_true rfl) rfl (fun Ea12 hk12 hs12 => ?_)
  replace h3 : Ea12 3 = _ := (hs12 3 (by decide)).trans h3
  replace h4 : Ea12 4 = _ := (hs12 4 (by decide)).trans h4
  replace h5 : Ea12 5 = _ := (hs12 5 (by decide)).trans h5
  replace h2 : Ea12 2 = .inr (7, [.ref (ad 3), .ref (ad 5), .int (jI 0), .int (jI 0), .int (jI 0), .int (jI 0)]) := hk12
  replace hF : ∀ j : Nat, j < 2 → Ea12 j = E0 j := fun j hj => (hs12 j (by omega)).trans (hF j hj)
  rw [hE0] at hF
  refine J_vret X R dX8_init_26 ?_
  exact ⟨rfl, h2, h3, h4, h5, hF⟩
set_option maxRecDepth 100000 in
set_option maxHeartbeats 8000000 in
theorem c_X7_init {l : Launch} {Γ : JG} {ad : Nat → Nat} {E : Nat → va_E} (h1 : E 1 = .inr (6, [.null, .null, .null, .null, .null, .int (jI 0), .int (jI 0), .int (jI 0)])) : JMA l Γ yX7_init cX7_init 1 none 3 60 7 295 ad 2 E [.ref (ad 1)] (pV (fun E' => E' 1 = .inr (6, [.ref (ad 2), .ref (ad 3), .ref (ad 5), .ref (ad 6), .ref (ad 8), .int (jI 0), .int (jI 0), .int (jI 0)]) ∧ E' 2 = .inr (7, [.ref (ad 3), .ref (ad 5), .int (jI 0), .int (jI 0), .int (jI 0), .int (jI 0)]) ∧ E' 3 = .inr (5, [.ref (ad 4), .int (jI 0)]) ∧ E' 4 = aI Γ 160 (fun _ => 0) ∧ E' 5 = .inr (0, [.int (jI 0), .int (jI 0), .int (jI 0), .int (jI 0), .int (jI 0)]) ∧ E' 6 = .inr (3, [.ref (ad 7), .int (jI 0)]) ∧ E' 7 = aI Γ 60 (fun _ => 0) ∧ E' 8 = aZ Γ 60 (fun _ => 0) ∧ ∀ j : Nat, j < 1 → E' j = E j)) := by
  refine JMA_intro (own := RX7) [some (.ref (ad 1))] rfl rfl rfl (Nat.le_of_ble_eq_true rfl) ?_
  intro Ω X R hin had
  obtain ⟨E0, hE0⟩ : ∃ E0 : Nat → va_E, E0 = E := ⟨_, rfl⟩
  have hF : ∀ j : Nat, j < 1 → E j = E0 j := fun _ _ => by rw [hE0]
  refine J_aload_n (q := 1) X dX7_init_0 rfl rfl ?_
  refine J_objInit (q := 4) X dX7_init_1 mX7_3 wObj1 wObj2 (by decide) (by decide) rfl ?_
  refine J_aload_n (q := 5) X dX7_init_4 rfl rfl ?_
  refine J_new (q := 8) X tyX8 [.null, .null, .int (jI 0), .int (jI 0), .int (jI 0), .int (jI 0)] dX7_init_5 ⟨nX7_9, iRX8.1, iRX8.2⟩ clRX8 tyX8_ok (by decide +kernel) (by decide) (by decide) had rfl rfl (fun Ea4 hk4 hs4 => ?_)
  replace h1 : Ea4 1 = _ := (hs4 1 (by decide)).trans h1
  have h2 : Ea4 2 = .inr (7, [.null, .null, .int (jI 0), .int (jI 0), .int (jI 0), .int (jI 0)]) := hk4
  replace hF : ∀ j : Nat, j < 1 → Ea4 j = E0 j := fun j hj => (hs4 j (by omega)).trans (hF j hj)
  show J l Γ Ω 1 ad 3 1 6 Ea4 8 [some (.ref (ad 1))] [.ref (ad 2), .ref (ad 1)]
  refine J_dup (q := 9) X dX7_init_8 rfl rfl ?_
  refine jrI (q := 12) X mX7_11 dX7_init_9 (c_X8_init h2) had rfl rfl rfl (Nat.le_of_ble_eq_true rfl) ⟨by decide, by decide, by decide, by decide⟩ rfl (fun rv Ea6 hp => ?_)
  obtain ⟨rfl, k2, k3, k4, k5, hs6⟩ := hp
  replace h1 : Ea6 1 = _ := (hs6 1 (by decide)).trans h1
  replace h2 := k2
  have h3 := k3
  have h4 := k4
  have h5 := k5
  replace hF : ∀ j : Nat, j < 1 → Ea6 j = E0 j := fun j hj => (hs6 j (by omega)).trans (hF j hj)
  show J l Γ Ω 1 ad 6 4 173 Ea6 12 [some (.ref (ad 1))] [.ref (ad 2), .ref (ad 1)]
  refine J_putF (q := 15) (ty := .object "FoldKeeper$Tokens") X dX7_init_12 gX7_12 rfl (hin rfl) rfl (by decide +kernel) rfl rfl h1 (by decide) (Nat.le_of_ble_eq_true rfl) rfl (fun Ea7 hk7 hs7 => ?_)
  replace h2 : Ea7 2 = _ := (hs7 2 (by decide)).trans h2
  replace h3 : Ea7 3 = _ := (hs7 3 (by decide)).trans h3
  replace h4 : Ea7 4 = _ := (hs7 4 (by decide)).trans h4
  replace h5 : Ea7 5 = _ := (hs7 5 (by decide)).trans h5
  replace h1 : Ea7 1 = .inr (6, [.ref (ad 2), .null, .null, .null, .null, .int (jI 0), .int (jI 0), .int (jI 0)]) := hk7
  replace hF : ∀ j : Nat, j < 1 → Ea7 j = E0 j := fun j hj => (hs7 j (by omega)).trans (hF j hj)
  refine J_aload_n (q := 16) X dX7_init_15 rfl rfl ?_
  refine J_aload_n (q := 17) X dX7_init_16 rfl rfl ?_
  refine J_get (q := 20) X dX7_init_17 fX7_12 h1 (by decide) rfl rfl ?_
  refine J_get (q := 23) X dX7_init_20 fX7_18 h2 (by decide) rfl rfl ?_
  refine J_putF (q := 26) (ty := .object "FoldKeeper$Tape") X dX7_init_23 gX7_22 rfl (hin rfl) rfl (by decide +kernel) rfl rfl h1 (by decide) (Nat.le_of_ble_eq_true rfl) rfl (fun Ea12 hk12 hs12 => ?_)
  replace h2 : Ea12 2 = _ := (hs12 2 (by decide)).trans h2
  replace h3 : Ea12 3 = _ := (hs12 3 (by decide)).trans h3
  replace h4 : Ea12 4 = _ := (hs12 4 (by decide)).trans h4
  replace h5 : Ea12 5 = _ := (hs12 5 (by decide)).trans h5
  replace h1 : Ea12 1 = .inr (6, [.ref (ad 2), .ref (ad 3), .null, .null, .null, .int (jI 0), .int (jI 0), .int (jI 0)]) := hk12
  replace hF : ∀ j : Nat, j < 1 → Ea12 j = E0 j := fun j hj => (hs12 j (by omega)).trans (hF j hj)
  refine J_aload_n (q := 27) X dX7_init_26 rfl rfl ?_
  refine J_aload_n (q := 28) X dX7_init_27 rfl rfl ?_
  refine J_get (q := 31) X dX7_init_28 fX7_12 h1 (by decide) rfl rfl ?_
  refine J_get (q := 34) X dX7_init_31 fX7_23 h2 (by decide) rfl rfl ?_
  refine J_putF (q := 37) (ty := .object "FoldKeeper$Blame") X dX7_init_34 gX7_27 rfl (hin rfl) rfl (by decide +kernel) rfl rfl h1 (by decide) (Nat.le_of_ble_eq_true rfl) rfl (fun Ea17 hk17 hs17 => ?_)
  replace h2 : Ea17 2 = _ := (hs17 2 (by decide)).trans h2
  replace h3 : Ea17 3 = _ := (hs17 3 (by decide)).trans h3
  replace h4 : Ea17 4 = _ := (hs17 4 (by decide)).trans h4
  replace h5 : Ea17 5 = _ := (hs17 5 (by decide)).trans h5
  replace h1 : Ea17 1 = .inr (6, [.ref (ad 2), .ref (ad 3), .ref (ad 5), .null, .null, .int (jI 0), .int (jI 0), .int (jI 0)]) := hk17
  replace hF : ∀ j : Nat, j < 1 → Ea17 j = E0 j := fun j hj => (hs17 j (by omega)).trans (hF j hj)
  refine J_aload_n (q := 38) X dX7_init_37 rfl rfl ?_
  refine J_new (q := 41) X tyX3 [.null, .int (jI 0)] dX7_init_38 ⟨nX7_28, iRX3.1, iRX3.2⟩ clRX3 tyX3_ok (by decide +kernel) (by decide) (by decide) had rfl rfl (fun Ea19 hk19 hs19 => ?_)
  replace h1 : Ea19 1 = _ := (hs19 1 (by decide)).trans h1
  replace h2 : Ea19 2 = _ := (hs19 2 (by decide)).trans h2
  replace h3 : Ea19 3 = _ := (hs19 3 (by decide)).trans h3
  replace h4 : Ea19 4 = _ := (hs19 4 (by decide)).trans h4
  replace h5 : Ea19 5 = _ := (hs19 5 (by decide)).trans h5
  have h6 : Ea19 6 = .inr (3, [.null, .int (jI 0)]) := hk19
  replace hF : ∀ j : Nat, j < 1 → Ea19 j = E0 j := fun j hj => (hs19 j (by omega)).trans (hF j hj)
  show J l Γ Ω 1 ad 7 5 175 Ea19 41 [some (.ref (ad 1))] [.ref (ad 6), .ref (ad 1)]
  refine J_dup (q := 42) X dX7_init_41 rfl rfl ?_
  refine jrI (q := 45) X mX7_30 dX7_init_42 (c_X3_init (by decide) h6) had rfl rfl rfl (Nat.le_of_ble_eq_true rfl) ⟨by decide, by decide, by decide, by decide⟩ rfl (fun rv Ea21 hp => ?_)
  obtain ⟨rfl, hk21, hk21b, hs21⟩ := hp
  replace h1 : Ea21 1 = _ := (hs21 1 (by decide) (by decide)).trans h1
  replace h2 : Ea21 2 = _ := (hs21 2 (by decide) (by decide)).trans h2
  replace h3 : Ea21 3 = _ := (hs21 3 (by decide) (by decide)).trans h3
  replace h4 : Ea21 4 = _ := (hs21 4 (by decide) (by decide)).trans h4
  replace h5 : Ea21 5 = _ := (hs21 5 (by decide) (by decide)).trans h5
  replace h6 : Ea21 6 = .inr (3, [.ref (ad 7), .int (jI 0)]) := hk21
  have h7 : Ea21 7 = aI Γ 60 (fun _ => 0) := hk21b
  replace hF : ∀ j : Nat, j < 1 → Ea21 j = E0 j := fun j hj => (hs21 j (by omega) (by omega)).trans (hF j hj)
  show J l Γ Ω 1 ad 8 6 235 Ea21 45 [some (.ref (ad 1))] [.ref (ad 6), .ref (ad 1)]
  refine J_putF (q := 48) (ty := .object "FoldKeeper$Row") X dX7_init_45 gX7_31 rfl (hin rfl) rfl (by decide +kernel) rfl rfl h1 (by decide) (Nat.le_of_ble_eq_true rfl) rfl (fun Ea22 hk22 hs22 => ?_)
  replace h2 : Ea22 2 = _ := (hs22 2 (by decide)).trans h2
  replace h3 : Ea22 3 = _ := (hs22 3 (by decide)).trans h3
  replace h4 : Ea22 4 = _ := (hs22 4 (by decide)).trans h4
  replace h5 : Ea22 5 = _ := (hs22 5 (by decide)).trans h5
  replace h6 : Ea22 6 = _ := (hs22 6 (by decide)).trans h6
  replace h7 : Ea22 7 = _ := (hs22 7 (by decide)).trans h7
  replace h1 : Ea22 1 = .inr (6, [.ref (ad 2), .ref (ad 3), .ref (ad 5), .ref (ad 6), .null, .int (jI 0), .int (jI 0), .int (jI 0)]) := hk22
  replace hF : ∀ j : Nat, j < 1 → Ea22 j = E0 j := fun j hj => (hs22 j (by omega)).trans (hF j hj)
  refine J_aload_n (q := 49) X dX7_init_48 rfl rfl ?_
  refine J_bipush (q := 51) X dX7_init_49 rfl (by decide) ?_
  refine J_newZ (q := 53) X 60 dX7_init_51 wArrZ rfl (by decide) (by decide) (by decide) had rfl rfl (fun Ea25 hk25 hs25 => ?_)
  replace h1 : Ea25 1 = _ := (hs25 1 (by decide)).trans h1
  replace h2 : Ea25 2 = _ := (hs25 2 (by decide)).trans h2
  replace h3 : Ea25 3 = _ := (hs25 3 (by decide)).trans h3
  replace h4 : Ea25 4 = _ := (hs25 4 (by decide)).trans h4
  replace h5 : Ea25 5 = _ := (hs25 5 (by decide)).trans h5
  replace h6 : Ea25 6 = _ := (hs25 6 (by decide)).trans h6
  replace h7 : Ea25 7 = _ := (hs25 7 (by decide)).trans h7
  have h8 : Ea25 8 = aZ Γ 60 (fun _ => 0) := hk25
  replace hF : ∀ j : Nat, j < 1 → Ea25 j = E0 j := fun j hj => (hs25 j (by omega)).trans (hF j hj)
  show J l Γ Ω 1 ad 9 7 295 Ea25 53 [some (.ref (ad 1))] [.ref (ad 8), .ref (ad 1)]
  refine J_putF (q := 56) (ty := .array .boolean) X dX7_init_53 gX7_35 rfl (hin rfl) rfl (by decide +kernel) rfl rfl h1 (by decide) (Nat.le_of_ble_eq_true rfl) rfl (fun Ea26 hk26 hs26 => ?_)
  replace h2 : Ea26 2 = _ := (hs26 2 (by decide)).trans h2
  replace h3 : Ea26 3 = _ := (hs26 3 (by decide)).trans h3
  replace h4 : Ea26 4 = _ := (hs26 4 (by decide)).trans h4
  replace h5 : Ea26 5 = _ := (hs26 5 (by decide)).trans h5
  replace h6 : Ea26 6 = _ := (hs26 6 (by decide)).trans h6
  replace h7 : Ea26 7 = _ := (hs26 7 (by decide)).trans h7
  replace h8 : Ea26 8 = _ := (hs26 8 (by decide)).trans h8
  replace h1 : Ea26 1 = .inr (6, [.ref (ad 2), .ref (ad 3), .ref (ad 5), .ref (ad 6), .ref (ad 8), .int (jI 0), .int (jI 0), .int (jI 0)]) := hk26
  replace hF : ∀ j : Nat, j < 1 → Ea26 j = E0 j := fun j hj => (hs26 j (by omega)).trans (hF j hj)
  rw [hE0] at hF
  refine J_vret X R dX7_init_56 ?_
  exact ⟨rfl, h1, h2, h3, h4, h5, h6, h7, h8, hF⟩
set_option maxRecDepth 100000 in
set_option maxHeartbeats 8000000 in
theorem c_X1_init {l : Launch} {Γ : JG} {ad : Nat → Nat} {E : Nat → va_E} (h9 : E 9 = .inr (1, [.null, .null, .null, .null, .null, .null, .null, .null])) : JMA l Γ yX1_init cX1_init 1 none 2 40 9 484 ad 10 E [.ref (ad 9)] (pV (fun E' => E' 9 = .inr (1, [.ref (ad 10), .ref (ad 12), .ref (ad 13), .ref (ad 14), .ref (ad 15), .ref (ad 16), .ref (ad 17), .ref (ad 18)]) ∧ E' 10 = .inr (3, [.ref (ad 11), .int (jI 0)]) ∧ E' 11 = aI Γ 60 (fun _ => 0) ∧ E' 12 = aI Γ 60 (fun _ => 0) ∧ E' 13 = aI Γ 60 (fun _ => 0) ∧ E' 14 = aI Γ 60 (fun _ => 0) ∧ E' 15 = aI Γ 61 (fun _ => 0) ∧ E' 16 = aI Γ 61 (fun _ => 0) ∧ E' 17 = aI Γ 60 (fun _ => 0) ∧ E' 18 = aZ Γ 60 (fun _ => 0) ∧ ∀ j : Nat, j < 9 → E' j = E j)) := by
  refine JMA_intro (own := RX1) [some (.ref (ad 9))] rfl rfl rfl (Nat.le_of_ble_eq_true rfl) ?_
  intro Ω X R hin had
  obtain ⟨E0, hE0⟩ : ∃ E0 : Nat → va_E, E0 = E := ⟨_, rfl⟩
  have hF : ∀ j : Nat, j < 9 → E j = E0 j := fun _ _ => by rw [hE0]
  refine J_aload_n (q := 1) X dX1_init_0 rfl rfl ?_
  refine J_objInit (q := 4) X dX1_init_1 mX1_3 wObj1 wObj2 (by decide) (by decide) rfl ?_
  refine J_aload_n (q := 5) X dX1_init_4 rfl rfl ?_
  refine J_new (q := 8) X tyX3 [.null, .int (jI 0)] dX1_init_5 ⟨nX1_9, iRX3.1, iRX3.2⟩ clRX3 tyX3_ok (by decide +kernel) (by decide) (by decide) had rfl rfl (fun Ea4 hk4 hs4 => ?_)
  replace h9 : Ea4 9 = _ := (hs4 9 (by decide)).trans h9
  have h10 : Ea4 10 = .inr (3, [.null, .int (jI 0)]) := hk4
  replace hF : ∀ j : Nat, j < 9 → Ea4 j = E0 j := fun j hj => (hs4 j (by omega)).trans (hF j hj)
  show J l Γ Ω 1 ad 11 1 2 Ea4 8 [some (.ref (ad 9))] [.ref (ad 10), .ref (ad 9)]
  refine J_dup (q := 9) X dX1_init_8 rfl rfl ?_
  refine jrI (q := 12) X mX1_11 dX1_init_9 (c_X3_init (by decide) h10) had rfl rfl rfl (Nat.le_of_ble_eq_true rfl) ⟨by decide, by decide, by decide, by decide⟩ rfl (fun rv Ea6 hp => ?_)
  obtain ⟨rfl, hk6, hk6b, hs6⟩ := hp
  replace h9 : Ea6 9 = _ := (hs6 9 (by decide) (by decide)).trans h9
  replace h10 : Ea6 10 = .inr (3, [.ref (ad 11), .int (jI 0)]) := hk6
  have h11 : Ea6 11 = aI Γ 60 (fun _ => 0) := hk6b
  replace hF : ∀ j : Nat, j < 9 → Ea6 j = E0 j := fun j hj => (hs6 j (by omega) (by omega)).trans (hF j hj)
  show J l Γ Ω 1 ad 12 2 62 Ea6 12 [some (.ref (ad 9))] [.ref (ad 10), .ref (ad 9)]
  refine J_putF (q := 15) (ty := .object "FoldKeeper$Row") X dX1_init_12 gX1_12 rfl (hin rfl) rfl (by decide +kernel) rfl rfl h9 (by decide) (Nat.le_of_ble_eq_true rfl) rfl (fun Ea7 hk7 hs7 => ?_)
  replace h10 : Ea7 10 = _ := (hs7 10 (by decide)).trans h10
  replace h11 : Ea7 11 = _ := (hs7 11 (by decide)).trans h11
  replace h9 : Ea7 9 = .inr (1, [.ref (ad 10), .null, .null, .null, .null, .null, .null, .null]) := hk7
  replace hF : ∀ j : Nat, j < 9 → Ea7 j = E0 j := fun j hj => (hs7 j (by omega)).trans (hF j hj)
  refine J_aload_n (q := 16) X dX1_init_15 rfl rfl ?_
  refine J_bipush (q := 18) X dX1_init_16 rfl (by decide) ?_
  refine J_newI (q := 20) X 60 dX1_init_18 wArrI rfl (by decide) (by decide) (by decide) had rfl rfl (fun Ea10 hk10 hs10 => ?_)
  replace h9 : Ea10 9 = _ := (hs10 9 (by decide)).trans h9
  replace h10 : Ea10 10 = _ := (hs10 10 (by decide)).trans h10
  replace h11 : Ea10 11 = _ := (hs10 11 (by decide)).trans h11
  have h12 : Ea10 12 = aI Γ 60 (fun _ => 0) := hk10
  replace hF : ∀ j : Nat, j < 9 → Ea10 j = E0 j := fun j hj => (hs10 j (by omega)).trans (hF j hj)
  show J l Γ Ω 1 ad 13 3 122 Ea10 20 [some (.ref (ad 9))] [.ref (ad 12), .ref (ad 9)]
  refine J_putF (q := 23) (ty := .array .int) X dX1_init_20 gX1_18 rfl (hin rfl) rfl (by decide +kernel) rfl rfl h9 (by decide) (Nat.le_of_ble_eq_true rfl) rfl (fun Ea11 hk11 hs11 => ?_)
  replace h10 : Ea11 10 = _ := (hs11 10 (by decide)).trans h10
  replace h11 : Ea11 11 = _ := (hs11 11 (by decide)).trans h11
  replace h12 : Ea11 12 = _ := (hs11 12 (by decide)).trans h12
  replace h9 : Ea11 9 = .inr (1, [.ref (ad 10), .ref (ad 12), .null, .null, .null, .null, .null, .null]) := hk11
  replace hF : ∀ j : Nat, j < 9 → Ea11 j = E0 j := fun j hj => (hs11 j (by omega)).trans (hF j hj)
  refine J_aload_n (q := 24) X dX1_init_23 rfl rfl ?_
  refine J_bipush (q := 26) X dX1_init_24 rfl (by decide) ?_
  refine J_newI (q := 28) X 60 dX1_init_26 wArrI rfl (by decide) (by decide) (by decide) had rfl rfl (fun Ea14 hk14 hs14 => ?_)
  replace h9 : Ea14 9 = _ := (hs14 9 (by decide)).trans h9
  replace h10 : Ea14 10 = _ := (hs14 10 (by decide)).trans h10
  replace h11 : Ea14 11 = _ := (hs14 11 (by decide)).trans h11
  replace h12 : Ea14 12 = _ := (hs14 12 (by decide)).trans h12
  have h13 : Ea14 13 = aI Γ 60 (fun _ => 0) := hk14
  replace hF : ∀ j : Nat, j < 9 → Ea14 j = E0 j := fun j hj => (hs14 j (by omega)).trans (hF j hj)
  show J l Γ Ω 1 ad 14 4 182 Ea14 28 [some (.ref (ad 9))] [.ref (ad 13), .ref (ad 9)]
  refine J_putF (q := 31) (ty := .array .int) X dX1_init_28 gX1_22 rfl (hin rfl) rfl (by decide +kernel) rfl rfl h9 (by decide) (Nat.le_of_ble_eq_true rfl) rfl (fun Ea15 hk15 hs15 => ?_)
  replace h10 : Ea15 10 = _ := (hs15 10 (by decide)).trans h10
  replace h11 : Ea15 11 = _ := (hs15 11 (by decide)).trans h11
  replace h12 : Ea15 12 = _ := (hs15 12 (by decide)).trans h12
  replace h13 : Ea15 13 = _ := (hs15 13 (by decide)).trans h13
  replace h9 : Ea15 9 = .inr (1, [.ref (ad 10), .ref (ad 12), .ref (ad 13), .null, .null, .null, .null, .null]) := hk15
  replace hF : ∀ j : Nat, j < 9 → Ea15 j = E0 j := fun j hj => (hs15 j (by omega)).trans (hF j hj)
  refine J_aload_n (q := 32) X dX1_init_31 rfl rfl ?_
  refine J_bipush (q := 34) X dX1_init_32 rfl (by decide) ?_
  refine J_newI (q := 36) X 60 dX1_init_34 wArrI rfl (by decide) (by decide) (by decide) had rfl rfl (fun Ea18 hk18 hs18 => ?_)
  replace h9 : Ea18 9 = _ := (hs18 9 (by decide)).trans h9
  replace h10 : Ea18 10 = _ := (hs18 10 (by decide)).trans h10
  replace h11 : Ea18 11 = _ := (hs18 11 (by decide)).trans h11
  replace h12 : Ea18 12 = _ := (hs18 12 (by decide)).trans h12
  replace h13 : Ea18 13 = _ := (hs18 13 (by decide)).trans h13
  have h14 : Ea18 14 = aI Γ 60 (fun _ => 0) := hk18
  replace hF : ∀ j : Nat, j < 9 → Ea18 j = E0 j := fun j hj => (hs18 j (by omega)).trans (hF j hj)
  show J l Γ Ω 1 ad 15 5 242 Ea18 36 [some (.ref (ad 9))] [.ref (ad 14), .ref (ad 9)]
  refine J_putF (q := 39) (ty := .array .int) X dX1_init_36 gX1_25 rfl (hin rfl) rfl (by decide +kernel) rfl rfl h9 (by decide) (Nat.le_of_ble_eq_true rfl) rfl (fun Ea19 hk19 hs19 => ?_)
  replace h10 : Ea19 10 = _ := (hs19 10 (by decide)).trans h10
  replace h11 : Ea19 11 = _ := (hs19 11 (by decide)).trans h11
  replace h12 : Ea19 12 = _ := (hs19 12 (by decide)).trans h12
  replace h13 : Ea19 13 = _ := (hs19 13 (by decide)).trans h13
  replace h14 : Ea19 14 = _ := (hs19 14 (by decide)).trans h14
  replace h9 : Ea19 9 = .inr (1, [.ref (ad 10), .ref (ad 12), .ref (ad 13), .ref (ad 14), .null, .null, .null, .null]) := hk19
  replace hF : ∀ j : Nat, j < 9 → Ea19 j = E0 j := fun j hj => (hs19 j (by omega)).trans (hF j hj)
  refine J_aload_n (q := 40) X dX1_init_39 rfl rfl ?_
  refine J_bipush (q := 42) X dX1_init_40 rfl (by decide) ?_
  refine J_newI (q := 44) X 61 dX1_init_42 wArrI rfl (by decide) (by decide) (by decide) had rfl rfl (fun Ea22 hk22 hs22 => ?_)
  replace h9 : Ea22 9 = _ := (hs22 9 (by decide)).trans h9
  replace h10 : Ea22 10 = _ := (hs22 10 (by decide)).trans h10
  replace h11 : Ea22 11 = _ := (hs22 11 (by decide)).trans h11
  replace h12 : Ea22 12 = _ := (hs22 12 (by decide)).trans h12
  replace h13 : Ea22 13 = _ := (hs22 13 (by decide)).trans h13
  replace h14 : Ea22 14 = _ := (hs22 14 (by decide)).trans h14
  have h15 : Ea22 15 = aI Γ 61 (fun _ => 0) := hk22
  replace hF : ∀ j : Nat, j < 9 → Ea22 j = E0 j := fun j hj => (hs22 j (by omega)).trans (hF j hj)
  show J l Γ Ω 1 ad 16 6 303 Ea22 44 [some (.ref (ad 9))] [.ref (ad 15), .ref (ad 9)]
  refine J_putF (q := 47) (ty := .array .int) X dX1_init_44 gX1_28 rfl (hin rfl) rfl (by decide +kernel) rfl rfl h9 (by decide) (Nat.le_of_ble_eq_true rfl) rfl (fun Ea23 hk23 hs23 => ?_)
  replace h10 : Ea23 10 = _ := (hs23 10 (by decide)).trans h10
  replace h11 : Ea23 11 = _ := (hs23 11 (by decide)).trans h11
  replace h12 : Ea23 12 = _ := (hs23 12 (by decide)).trans h12
  replace h13 : Ea23 13 = _ := (hs23 13 (by decide)).trans h13
  replace h14 : Ea23 14 = _ := (hs23 14 (by decide)).trans h14
  replace h15 : Ea23 15 = _ := (hs23 15 (by decide)).trans h15
  replace h9 : Ea23 9 = .inr (1, [.ref (ad 10), .ref (ad 12), .ref (ad 13), .ref (ad 14), .ref (ad 15), .null, .null, .null]) := hk23
  replace hF : ∀ j : Nat, j < 9 → Ea23 j = E0 j := fun j hj => (hs23 j (by omega)).trans (hF j hj)
  refine J_aload_n (q := 48) X dX1_init_47 rfl rfl ?_
  refine J_bipush (q := 50) X dX1_init_48 rfl (by decide) ?_
  refine J_newI (q := 52) X 61 dX1_init_50 wArrI rfl (by decide) (by decide) (by decide) had rfl rfl (fun Ea26 hk26 hs26 => ?_)
  replace h9 : Ea26 9 = _ := (hs26 9 (by decide)).trans h9
  replace h10 : Ea26 10 = _ := (hs26 10 (by decide)).trans h10
  replace h11 : Ea26 11 = _ := (hs26 11 (by decide)).trans h11
  replace h12 : Ea26 12 = _ := (hs26 12 (by decide)).trans h12
  replace h13 : Ea26 13 = _ := (hs26 13 (by decide)).trans h13
  replace h14 : Ea26 14 = _ := (hs26 14 (by decide)).trans h14
  replace h15 : Ea26 15 = _ := (hs26 15 (by decide)).trans h15
  have h16 : Ea26 16 = aI Γ 61 (fun _ => 0) := hk26
  replace hF : ∀ j : Nat, j < 9 → Ea26 j = E0 j := fun j hj => (hs26 j (by omega)).trans (hF j hj)
  show J l Γ Ω 1 ad 17 7 364 Ea26 52 [some (.ref (ad 9))] [.ref (ad 16), .ref (ad 9)]
  refine J_putF (q := 55) (ty := .array .int) X dX1_init_52 gX1_31 rfl (hin rfl) rfl (by decide +kernel) rfl rfl h9 (by decide) (Nat.le_of_ble_eq_true rfl) rfl (fun Ea27 hk27 hs27 => ?_)
  replace h10 : Ea27 10 = _ := (hs27 10 (by decide)).trans h10
  replace h11 : Ea27 11 = _ := (hs27 11 (by decide)).trans h11
  replace h12 : Ea27 12 = _ := (hs27 12 (by decide)).trans h12
  replace h13 : Ea27 13 = _ := (hs27 13 (by decide)).trans h13
  replace h14 : Ea27 14 = _ := (hs27 14 (by decide)).trans h14
  replace h15 : Ea27 15 = _ := (hs27 15 (by decide)).trans h15
  replace h16 : Ea27 16 = _ := (hs27 16 (by decide)).trans h16
  replace h9 : Ea27 9 = .inr (1, [.ref (ad 10), .ref (ad 12), .ref (ad 13), .ref (ad 14), .ref (ad 15), .ref (ad 16), .null, .null]) := hk27
  replace hF : ∀ j : Nat, j < 9 → Ea27 j = E0 j := fun j hj => (hs27 j (by omega)).trans (hF j hj)
  refine J_aload_n (q := 56) X dX1_init_55 rfl rfl ?_
  refine J_bipush (q := 58) X dX1_init_56 rfl (by decide) ?_
  refine J_newI (q := 60) X 60 dX1_init_58 wArrI rfl (by decide) (by decide) (by decide) had rfl rfl (fun Ea30 hk30 hs30 => ?_)
  replace h9 : Ea30 9 = _ := (hs30 9 (by decide)).trans h9
  replace h10 : Ea30 10 = _ := (hs30 10 (by decide)).trans h10
  replace h11 : Ea30 11 = _ := (hs30 11 (by decide)).trans h11
  replace h12 : Ea30 12 = _ := (hs30 12 (by decide)).trans h12
  replace h13 : Ea30 13 = _ := (hs30 13 (by decide)).trans h13
  replace h14 : Ea30 14 = _ := (hs30 14 (by decide)).trans h14
  replace h15 : Ea30 15 = _ := (hs30 15 (by decide)).trans h15
  replace h16 : Ea30 16 = _ := (hs30 16 (by decide)).trans h16
  have h17 : Ea30 17 = aI Γ 60 (fun _ => 0) := hk30
  replace hF : ∀ j : Nat, j < 9 → Ea30 j = E0 j := fun j hj => (hs30 j (by omega)).trans (hF j hj)
  show J l Γ Ω 1 ad 18 8 424 Ea30 60 [some (.ref (ad 9))] [.ref (ad 17), .ref (ad 9)]
  refine J_putF (q := 63) (ty := .array .int) X dX1_init_60 gX1_34 rfl (hin rfl) rfl (by decide +kernel) rfl rfl h9 (by decide) (Nat.le_of_ble_eq_true rfl) rfl (fun Ea31 hk31 hs31 => ?_)
  replace h10 : Ea31 10 = _ := (hs31 10 (by decide)).trans h10
  replace h11 : Ea31 11 = _ := (hs31 11 (by decide)).trans h11
  replace h12 : Ea31 12 = _ := (hs31 12 (by decide)).trans h12
  replace h13 : Ea31 13 = _ := (hs31 13 (by decide)).trans h13
  replace h14 : Ea31 14 = _ := (hs31 14 (by decide)).trans h14
  replace h15 : Ea31 15 = _ := (hs31 15 (by decide)).trans h15
  replace h16 : Ea31 16 = _ := (hs31 16 (by decide)).trans h16
  replace h17 : Ea31 17 = _ := (hs31 17 (by decide)).trans h17
  replace h9 : Ea31 9 = .inr (1, [.ref (ad 10), .ref (ad 12), .ref (ad 13), .ref (ad 14), .ref (ad 15), .ref (ad 16), .ref (ad 17), .null]) := hk31
  replace hF : ∀ j : Nat, j < 9 → Ea31 j = E0 j := fun j hj => (hs31 j (by omega)).trans (hF j hj)
  refine J_aload_n (q := 64) X dX1_init_63 rfl rfl ?_
  refine J_bipush (q := 66) X dX1_init_64 rfl (by decide) ?_
  refine J_newZ (q := 68) X 60 dX1_init_66 wArrZ rfl (by decide) (by decide) (by decide) had rfl rfl (fun Ea34 hk34 hs34 => ?_)
  replace h9 : Ea34 9 = _ := (hs34 9 (by decide)).trans h9
  replace h10 : Ea34 10 = _ := (hs34 10 (by decide)).trans h10
  replace h11 : Ea34 11 = _ := (hs34 11 (by decide)).trans h11
  replace h12 : Ea34 12 = _ := (hs34 12 (by decide)).trans h12
  replace h13 : Ea34 13 = _ := (hs34 13 (by decide)).trans h13
  replace h14 : Ea34 14 = _ := (hs34 14 (by decide)).trans h14
  replace h15 : Ea34 15 = _ := (hs34 15 (by decide)).trans h15
  replace h16 : Ea34 16 = _ := (hs34 16 (by decide)).trans h16
  replace h17 : Ea34 17 = _ := (hs34 17 (by decide)).trans h17
  have h18 : Ea34 18 = aZ Γ 60 (fun _ => 0) := hk34
  replace hF : ∀ j : Nat, j < 9 → Ea34 j = E0 j := fun j hj => (hs34 j (by omega)).trans (hF j hj)
  show J l Γ Ω 1 ad 19 9 484 Ea34 68 [some (.ref (ad 9))] [.ref (ad 18), .ref (ad 9)]
  refine J_putF (q := 71) (ty := .array .boolean) X dX1_init_68 gX1_37 rfl (hin rfl) rfl (by decide +kernel) rfl rfl h9 (by decide) (Nat.le_of_ble_eq_true rfl) rfl (fun Ea35 hk35 hs35 => ?_)
  replace h10 : Ea35 10 = _ := (hs35 10 (by decide)).trans h10
  replace h11 : Ea35 11 = _ := (hs35 11 (by decide)).trans h11
  replace h12 : Ea35 12 = _ := (hs35 12 (by decide)).trans h12
  replace h13 : Ea35 13 = _ := (hs35 13 (by decide)).trans h13
  replace h14 : Ea35 14 = _ := (hs35 14 (by decide)).trans h14
  replace h15 : Ea35 15 = _ := (hs35 15 (by decide)).trans h15
  replace h16 : Ea35 16 = _ := (hs35 16 (by decide)).trans h16
  replace h17 : Ea35 17 = _ := (hs35 17 (by decide)).trans h17
  replace h18 : Ea35 18 = _ := (hs35 18 (by decide)).trans h18
  replace h9 : Ea35 9 = .inr (1, [.ref (ad 10), .ref (ad 12), .ref (ad 13), .ref (ad 14), .ref (ad 15), .ref (ad 16), .ref (ad 17), .ref (ad 18)]) := hk35
  replace hF : ∀ j : Nat, j < 9 → Ea35 j = E0 j := fun j hj => (hs35 j (by omega)).trans (hF j hj)
  rw [hE0] at hF
  refine J_vret X R dX1_init_71 ?_
  exact ⟨rfl, h9, h10, h11, h12, h13, h14, h15, h16, h17, h18, hF⟩
set_option maxRecDepth 100000 in
set_option maxHeartbeats 8000000 in
theorem c_X2_init {l : Launch} {Γ : JG} {ad : Nat → Nat} {E : Nat → va_E} (h19 : E 19 = .inr (2, [.null, .int (jI 0), .int (jI 0), .int (jI 0)])) : JMA l Γ yX2_init cX2_init 2 none 2 40 43 1323 ad 20 E [.ref (ad 19)] (pV (fun E' => (E' 19 = .inr (2, [.ref (ad 20), .int (jI 0), .int (jI 0), .int (jI 0)]) ∧ E' 20 = aR Γ 2 21 (fun i => some (ad (21 + 2 * i))) ∧ (∀ i : Nat, i < 21 → E' (21 + 2 * i) = .inr (3, [.ref (ad (22 + 2 * i)), .int (jI 0)])) ∧ ∀ i : Nat, i < 21 → E' (22 + 2 * i) = aI Γ 60 (fun _ => 0)) ∧ ∀ j : Nat, j < 19 → E' j = E j)) := by
  refine JMA_intro (own := RX2) [some (.ref (ad 19)), none] rfl rfl rfl (Nat.le_of_ble_eq_true rfl) ?_
  intro Ω X R hin had
  obtain ⟨E0, hE0⟩ : ∃ E0 : Nat → va_E, E0 = E := ⟨_, rfl⟩
  have hF : ∀ j : Nat, j < 19 → E j = E0 j := fun _ _ => by rw [hE0]
  refine J_aload_n (q := 1) X dX2_init_0 rfl rfl ?_
  refine J_objInit (q := 4) X dX2_init_1 mX2_3 wObj1 wObj2 (by decide) (by decide) rfl ?_
  refine J_aload_n (q := 5) X dX2_init_4 rfl rfl ?_
  refine J_bipush (q := 7) X dX2_init_5 rfl (by decide) ?_
  refine J_anew (q := 10) X 2 21 dX2_init_7 nX2_11 (Or.inl ⟨rfl, rfl⟩) rfl (by decide) (by decide) (by decide) had rfl rfl (fun E1 hk1 hs1 => ?_)
  replace h19 : E1 19 = _ := (hs1 19 (by decide)).trans h19
  have h20 : E1 20 = aR Γ 2 21 (fun _ => none) := hk1
  replace hF : ∀ j : Nat, j < 19 → E1 j = E0 j := fun j hj => (hs1 j (by omega)).trans (hF j hj)
  refine J_putF (q := 13) (ty := .array (.object "FoldKeeper$Row")) X dX2_init_10 gX2_13 rfl (hin rfl) rfl (by decide +kernel) rfl rfl h19 (by decide) (Nat.le_of_ble_eq_true rfl) rfl (fun E2 hk2 hs2 => ?_)
  replace h19 : E2 19 = .inr (2, [.ref (ad 20), .int (jI 0), .int (jI 0), .int (jI 0)]) := hk2
  replace h20 : E2 20 = _ := (hs2 20 (by decide)).trans h20
  replace hF : ∀ j : Nat, j < 19 → E2 j = E0 j := fun j hj => (hs2 j (by omega)).trans (hF j hj)
  refine J_iconst (q := 14) X dX2_init_13 rfl ?_
  refine J_istore_n (q := 15) X dX2_init_14 (by decide) rfl rfl ?_
  have lp : ∀ (m i : Nat) (E : Nat → va_E) (hi : i ≤ 21) (hm : 22 - i ≤ m) (h19 : E 19 = .inr (2, [.ref (ad 20), .int (jI 0), .int (jI 0), .int (jI 0)])) (h20 : E 20 = aR Γ 2 21 (fun j => if j < i then some (ad (21 + 2 * j)) else none)) (hro : ∀ j : Nat, j < i → E (21 + 2 * j) = .inr (3, [.ref (ad (22 + 2 * j)), .int (jI 0)])) (hce : ∀ j : Nat, j < i → E (22 + 2 * j) = aI Γ 60 (fun _ => 0)) (hF : ∀ j : Nat, j < 19 → E j = E0 j), J l Γ Ω 2 ad (21 + 2 * i) (1 + 2 * i) (21 + 62 * i) E 15 [some (.ref (ad 19)), some (.int (jI (i : Int)))] [] := by
    intro m
    induction m with
    | zero => intro i E hi hm; exfalso; omega
    | succ m ih =>
      intro i E hi hm h19 h20 hro hce hF
      refine J_iload_n (q := 16) X dX2_init_15 rfl rfl ?_
      refine J_bipush (q := 18) X dX2_init_16 rfl (by decide) ?_
      refine J_icmp_ge (q := 21) (tgt := 40) X dX2_init_18 (by decide) rfl (by omega) (by omega) (fun cq => ?_) (fun cq => ?_)
      · have e21 : i = 21 := by omega
        subst e21
        refine J_extR (f' := fun j => some (ad (21 + 2 * j))) h20 (by decide) (fun j hj => if_pos hj) (fun E9 hk9 hs9 => ?_)
        rw [hE0] at hF
        refine J_vret X R dX2_init_40 ?_
        exact ⟨rfl, ⟨(hs9 19 (by decide)).trans h19, hk9, fun j hj => (hs9 _ (by omega)).trans (hro j hj), fun j hj => (hs9 _ (by omega)).trans (hce j hj)⟩, fun j hj => (hs9 j (by omega)).trans (hF j hj)⟩
      · refine J_aload_n (q := 22) X dX2_init_21 rfl rfl ?_
        refine J_get (q := 25) X dX2_init_22 fX2_13 h19 (by omega) rfl rfl ?_
        refine J_iload_n (q := 26) X dX2_init_25 rfl rfl ?_
        refine J_new (q := 29) X tyX3 [.null, .int (jI 0)] dX2_init_26 ⟨nX2_11, iRX3.1, iRX3.2⟩ clRX3 tyX3_ok (by decide +kernel) (by omega) (by omega) had (by omega) rfl (fun E3 hk3 hs3 => ?_)
        refine J_dup (q := 30) X dX2_init_29 rfl rfl ?_
        refine jrI (q := 33) X mX2_17 dX2_init_30 (c_X3_init (by omega) hk3) had (by omega) rfl rfl (Nat.le_of_ble_eq_true rfl) ⟨by decide, by decide, by omega, by omega⟩ rfl (fun rv E4 hp => ?_)
        obtain ⟨rfl, hk4, hk4b, hs4⟩ := hp
        have hs34 : ∀ j : Nat, j < 21 + 2 * i → E4 j = E j := fun j hj => (hs4 j (by omega) (by omega)).trans (hs3 j (by omega))
        refine J_aast (q := 34) X dX2_init_33 (Or.inl rfl) ((hs34 20 (by omega)).trans h20) (by omega) hk4 (by omega) rfl rfl (by omega) (by decide) rfl (fun E5 hk5 hs5 => ?_)
        refine J_iinc (q := 37) X dX2_init_34 rfl (by decide) rfl rfl ?_
        refine J_goto (q := 15) X dX2_init_37 (by decide) ?_
        refine J_cast (N' := 21 + 2 * (i + 1)) (k' := 1 + 2 * (i + 1)) (n' := 21 + 62 * (i + 1)) (by omega) (by omega) (by omega) ?_
        refine J_extR (f' := fun j => if j < i + 1 then some (ad (21 + 2 * j)) else none) hk5 (by omega) (fun j hj => ?_) (fun E6 hk6 hs6 => ?_)
        · show (if j = ((i : Int)).toNat then some (ad (21 + 2 * i)) else (if j < i then some (ad (21 + 2 * j)) else none)) = _
          by_cases e : j = i
          · subst e
            rw [if_pos (by omega), if_pos (by omega)]
          · rw [if_neg (by omega)]
            by_cases e2 : j < i
            · rw [if_pos e2, if_pos (by omega)]
            · rw [if_neg e2, if_neg (by omega)]
        · have hs56 : ∀ j : Nat, j ≠ 20 → E6 j = E4 j := fun j hj => (hs6 j hj).trans (hs5 j hj)
          exact ih (i + 1) E6 (by omega) (by omega) ((hs56 19 (by decide)).trans ((hs34 19 (by omega)).trans h19)) hk6
            (fun j hj => by
              by_cases e : j = i
              · subst e
                rw [hs56 _ (by omega), hk4]
                rw [show 22 + 2 * j = 21 + 2 * j + 1 by omega]
              · rw [hs56 _ (by omega), hs34 _ (by omega)]; exact hro j (by omega))
            (fun j hj => by
              by_cases e : j = i
              · subst e
                rw [hs56 _ (by omega), show 22 + 2 * j = 21 + 2 * j + 1 by omega]; exact hk4b
              · rw [hs56 _ (by omega), hs34 _ (by omega)]; exact hce j (by omega))
            (fun j hj => (hs56 j (by omega)).trans ((hs34 j (by omega)).trans (hF j hj)))
  refine J_extR (f' := fun j => if j < 0 then some (ad (21 + 2 * j)) else none) h20 (by decide) (fun j hj => (if_neg (by omega)).symm) (fun E9 hk9 hs9 => ?_)
  exact lp 22 0 E9 (by omega) (by omega) ((hs9 19 (by decide)).trans h19) hk9 (fun j hj => absurd hj (by omega)) (fun j hj => absurd hj (by omega)) (fun j hj => (hs9 j (by omega)).trans (hF j hj))
