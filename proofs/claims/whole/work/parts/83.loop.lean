set_option maxRecDepth 100000 in
set_option maxHeartbeats 4000000 in
theorem law_loop {l : Launch} {Γ : JG} {Ω : JO} {ad : Nat → Nat} {b Ln : Nat} {xs : Nat → Int32} (X : JX Γ Ω RL cL_law 4 12 600000 7302250 422) (hX : va_X b Ln xs Ω.2.2.2.1 Ω.2.2.2.1.heap) (hbl : b < Ω.2.2.2.1.heap.size) (hbA : ¬ jA Γ b) (hL : Ln ≤ 2560) (kend : ∀ (E : Nat → va_E) (i : Int), J l Γ Ω 4 ad 95 95 5922 E 1024 [some (.ref b), some (.ref (ad 0)), some (.ref (ad 78)), some (.int (jI i))] []) : ∀ (m : Nat) (i : Int) (s : KS) (E : Nat → va_E), (0 ≤ i ∧ i ≤ (Ln : Int)) → (Ln : Int) - i + 1 ≤ (m : Int) → KI Γ ad E s → MI Γ ad E s → J l Γ Ω 4 ad 95 95 5922 E 18 [some (.ref b), some (.ref (ad 0)), some (.ref (ad 78)), some (.int (jI i))] [] := by
  intro m
  induction m with
  | zero => intro i s E hi hm; exfalso; omega
  | succ m ih =>
    intro i s E hi hm hK hM
    refine J_iload_n (q := 19) X dL_law_18 rfl rfl ?_
    refine J_aload_n (q := 20) X dL_law_19 rfl rfl ?_
    refine J_slen0 (q := 21) X hX hbl hbA dL_law_20 rfl ?_
    refine J_iconst (q := 22) X dL_law_21 rfl ?_
    refine J_isub (q := 23) X dL_law_22 rfl ?_
    refine J_icmp_gt (q := 26) (tgt := 1024) X dL_law_23 (by decide) rfl (by omega) (by omega) (fun cq => ?_) (fun cq => ?_)
    · exact kend E i
    · have hi5 : 0 ≤ i ∧ i + 5 ≤ (Ln : Int) := by omega
      refine J_aload_n (q := 27) X dL_law_26 rfl rfl ?_
      refine J_iload_n (q := 28) X dL_law_27 rfl rfl ?_
      refine J_sld (q := 29) X hX hbl hbA dL_law_28 (by omega) (by omega) rfl ?_
      refine J_bipush (q := 31) X dL_law_29 rfl (by decide) ?_
      refine J_iand (q := 32) X dL_law_31 rfl (jI_and31 _) ?_
      have hw : 0 ≤ ys xs i % 32 ∧ ys xs i % 32 < 32 := by omega
      generalize ys xs i % 32 = w at hw ⊢
      have kk : ∀ (E' : Nat → va_E) (s' : KS), KI Γ ad E' s' → MI Γ ad E' s' → J l Γ Ω 4 ad 95 95 5922 E' 1018 [some (.ref b), some (.ref (ad 0)), some (.ref (ad 78)), some (.int (jI i))] [] := by
        intro E' s' hK' hM'
        refine J_iinc (q := 1021) X dL_law_1018 rfl (by decide) rfl rfl ?_
        refine J_goto (q := 18) X dL_law_1021 (by decide) ?_
        exact ih (i + 5) s' E' (by omega) (by omega) hK' hM'
      rcases (show (w < 0 ∨ 29 < w) ∨ w = 0 ∨ w = 1 ∨ w = 2 ∨ w = 3 ∨ w = 4 ∨ w = 5 ∨ w = 6 ∨ w = 7 ∨ w = 8 ∨ w = 9 ∨ w = 10 ∨ w = 11 ∨ w = 12 ∨ w = 13 ∨ w = 14 ∨ w = 15 ∨ w = 16 ∨ w = 17 ∨ w = 18 ∨ w = 19 ∨ w = 20 ∨ w = 21 ∨ w = 22 ∨ w = 23 ∨ w = 24 ∨ w = 25 ∨ w = 26 ∨ w = 27 ∨ w = 28 ∨ w = 29 by omega) with hsw | hsw | hsw | hsw | hsw | hsw | hsw | hsw | hsw | hsw | hsw | hsw | hsw | hsw | hsw | hsw | hsw | hsw | hsw | hsw | hsw | hsw | hsw | hsw | hsw | hsw | hsw | hsw | hsw | hsw | hsw
      · exact J_tableOut (tgt := 1018) X dL_law_32 (by omega) hsw (by decide) (kk E s hK hM)
      · exact J_tableIn (tgt := 168) (v := 0) (off := 136) X dL_law_32 hsw (by decide) rfl (by decide) (law_c0 X hX hbl hbA hL hi5 hK hM kk)
      · exact J_tableIn (tgt := 191) (v := 1) (off := 159) X dL_law_32 hsw (by decide) rfl (by decide) (law_c1 X hX hbl hbA hL hi5 hK hM kk)
      · exact J_tableIn (tgt := 214) (v := 2) (off := 182) X dL_law_32 hsw (by decide) rfl (by decide) (law_c2 X hX hbl hbA hL hi5 hK hM kk)
      · exact J_tableIn (tgt := 227) (v := 3) (off := 195) X dL_law_32 hsw (by decide) rfl (by decide) (law_c3 X hX hbl hbA hL hi5 hK hM kk)
      · exact J_tableIn (tgt := 240) (v := 4) (off := 208) X dL_law_32 hsw (by decide) rfl (by decide) (law_c4 X hX hbl hbA hL hi5 hK hM kk)
      · exact J_tableIn (tgt := 263) (v := 5) (off := 231) X dL_law_32 hsw (by decide) rfl (by decide) (law_c5 X hX hbl hbA hL hi5 hK hM kk)
      · exact J_tableIn (tgt := 286) (v := 6) (off := 254) X dL_law_32 hsw (by decide) rfl (by decide) (law_c6 X hX hbl hbA hL hi5 hK hM kk)
      · exact J_tableIn (tgt := 319) (v := 7) (off := 287) X dL_law_32 hsw (by decide) rfl (by decide) (law_c7 X hX hbl hbA hL hi5 hK hM kk)
      · exact J_tableIn (tgt := 352) (v := 8) (off := 320) X dL_law_32 hsw (by decide) rfl (by decide) (law_c8 X hX hbl hbA hL hi5 hK hM kk)
      · exact J_tableIn (tgt := 385) (v := 9) (off := 353) X dL_law_32 hsw (by decide) rfl (by decide) (law_c9 X hX hbl hbA hL hi5 hK hM kk)
      · exact J_tableIn (tgt := 408) (v := 10) (off := 376) X dL_law_32 hsw (by decide) rfl (by decide) (law_c10 X hX hbl hbA hL hi5 hK hM kk)
      · exact J_tableIn (tgt := 441) (v := 11) (off := 409) X dL_law_32 hsw (by decide) rfl (by decide) (law_c11 X hX hbl hbA hL hi5 hK hM kk)
      · exact J_tableIn (tgt := 464) (v := 12) (off := 432) X dL_law_32 hsw (by decide) rfl (by decide) (law_c12 X hX hbl hbA hL hi5 hK hM kk)
      · exact J_tableIn (tgt := 487) (v := 13) (off := 455) X dL_law_32 hsw (by decide) rfl (by decide) (law_c13 X hX hbl hbA hL hi5 hK hM kk)
      · exact J_tableIn (tgt := 520) (v := 14) (off := 488) X dL_law_32 hsw (by decide) rfl (by decide) (law_c14 X hX hbl hbA hL hi5 hK hM kk)
      · exact J_tableIn (tgt := 553) (v := 15) (off := 521) X dL_law_32 hsw (by decide) rfl (by decide) (law_c15 X hX hbl hbA hL hi5 hK hM kk)
      · exact J_tableIn (tgt := 586) (v := 16) (off := 554) X dL_law_32 hsw (by decide) rfl (by decide) (law_c16 X hX hbl hbA hL hi5 hK hM kk)
      · exact J_tableIn (tgt := 629) (v := 17) (off := 597) X dL_law_32 hsw (by decide) rfl (by decide) (law_c17 X hX hbl hbA hL hi5 hK hM kk)
      · exact J_tableIn (tgt := 672) (v := 18) (off := 640) X dL_law_32 hsw (by decide) rfl (by decide) (law_c18 X hX hbl hbA hL hi5 hK hM kk)
      · exact J_tableIn (tgt := 705) (v := 19) (off := 673) X dL_law_32 hsw (by decide) rfl (by decide) (law_c19 X hX hbl hbA hL hi5 hK hM kk)
      · exact J_tableIn (tgt := 738) (v := 20) (off := 706) X dL_law_32 hsw (by decide) rfl (by decide) (law_c20 X hX hbl hbA hL hi5 hK hM kk)
      · exact J_tableIn (tgt := 771) (v := 21) (off := 739) X dL_law_32 hsw (by decide) rfl (by decide) (law_c21 X hX hbl hbA hL hi5 hK hM kk)
      · exact J_tableIn (tgt := 784) (v := 22) (off := 752) X dL_law_32 hsw (by decide) rfl (by decide) (law_c22 X hX hbl hbA hL hi5 hK hM kk)
      · exact J_tableIn (tgt := 797) (v := 23) (off := 765) X dL_law_32 hsw (by decide) rfl (by decide) (law_c23 X hX hbl hbA hL hi5 hK hM kk)
      · exact J_tableIn (tgt := 820) (v := 24) (off := 788) X dL_law_32 hsw (by decide) rfl (by decide) (law_c24 X hX hbl hbA hL hi5 hK hM kk)
      · exact J_tableIn (tgt := 843) (v := 25) (off := 811) X dL_law_32 hsw (by decide) rfl (by decide) (law_c25 X hX hbl hbA hL hi5 hK hM kk)
      · exact J_tableIn (tgt := 886) (v := 26) (off := 854) X dL_law_32 hsw (by decide) rfl (by decide) (law_c26 X hX hbl hbA hL hi5 hK hM kk)
      · exact J_tableIn (tgt := 929) (v := 27) (off := 897) X dL_law_32 hsw (by decide) rfl (by decide) (law_c27 X hX hbl hbA hL hi5 hK hM kk)
      · exact J_tableIn (tgt := 982) (v := 28) (off := 950) X dL_law_32 hsw (by decide) rfl (by decide) (law_c28 X hX hbl hbA hL hi5 hK hM kk)
      · exact J_tableIn (tgt := 995) (v := 29) (off := 963) X dL_law_32 hsw (by decide) rfl (by decide) (law_c29 X hX hbl hbA hL hi5 hK hM kk)
set_option maxRecDepth 100000 in
set_option maxHeartbeats 4000000 in
theorem whole_start {p : Program} {e : Env} {s : State} {m : MethodId} {below : List Frame} {meth : Method} {c : Code} (l : Launch) (hflags : l.flags = flags0) {b L : Nat} {xs : Nat → Int32} (hL : L ≤ 2560) (C0 : lw_At p s m meth c b L xs) : W p l e room_1 s m #[Value.ref b] below meth c s.heap [] 0 0 (lw_Z below #[Value.ref b] s) (entryFrame m ([Value.ref b] : List Value).toArray 4) := by
  obtain ⟨hx, hb, hr, hml, hown, hts, hX, hbl, hlocks, hgv⟩ := id C0
  obtain ⟨Γ, hΓ, henv⟩ := jenv_start hts hgv
  have htw : ∀ w ∈ tw, w.before #[Value.ref b] s = true := fun w hw => hts w (List.mem_filter.mp hw).1
  have hbA : ¬ jA Γ b := by
    show ¬ Γ.1 ≤ b
    omega
  obtain ⟨ad, had0⟩ : ∃ ad : Nat → Nat, ∀ j, ad j = s.heap.size + j := ⟨fun j => s.heap.size + j, fun _ => rfl⟩
  have had : ∀ j, 0 ≤ j → ad j = s.heap.size + (j - 0) := fun j _ => had0 j
  have X : JX Γ (p, e, room_1, s, m, #[Value.ref b], below, meth, c, lw_Z below #[Value.ref b] s) RL cL_law 4 12 600000 7302250 422 := ⟨hx, hb, hml, hown, htw, henv, rfl⟩
  have kend : ∀ (E : Nat → va_E) (i : Int), J l Γ (p, e, room_1, s, m, #[Value.ref b], below, meth, c, lw_Z below #[Value.ref b] s) 4 ad 95 95 5922 E 1024 [some (.ref b), some (.ref (ad 0)), some (.ref (ad 78)), some (.int (jI i))] [] := by
    intro E i
    refine J_iconst (q := 1025) X dL_law_1024 rfl ?_
    intro H locs ls hl hw hS
    refine va_forget (fun q hq => by have := hS.2.2 q hq; have h2 : Γ.1 ≤ q.base := this; show s.heap.size ≤ q.base; omega) ?_
    refine W.widen (k := 600000) (n := 7302250) (Nat.le_of_ble_eq_true rfl) (Nat.le_of_ble_eq_true rfl) ?_
    exact lw_ret hx hb hr hlocks dL_law_1025
  have E0 : Nat → va_E := fun _ => .inr (0, [])
  have start : J l Γ (p, e, room_1, s, m, #[Value.ref b], below, meth, c, lw_Z below #[Value.ref b] s) 4 ad 0 0 0 E0 0 [some (.ref b), none, none, none] [] := by
    refine J_new (q := 3) X tyX9 [.null, .null, .null, .null, .null, .null, .null, .null, .int (jI 0)] dL_law_0 ⟨nL_7, iRX9.1, iRX9.2⟩ clRX9 tyX9_ok (by decide +kernel) (Nat.le_of_ble_eq_true rfl) (Nat.le_of_ble_eq_true rfl) had rfl rfl (fun E1 hk1 hs1 => ?_)
    refine J_dup (q := 4) X dL_law_3 rfl rfl ?_
    refine jrI (q := 7) X mL_9 dL_law_4 (c_X9_init hk1) had rfl rfl rfl (Nat.le_of_ble_eq_true rfl) ⟨Nat.le_of_ble_eq_true rfl, Nat.le_of_ble_eq_true rfl, Nat.le_of_ble_eq_true rfl, Nat.le_of_ble_eq_true rfl⟩ rfl (fun rv E2 hp => ?_)
    obtain ⟨rfl, hK⟩ := hp
    show J l Γ _ 4 ad 78 78 2439 E2 7 [some (.ref b), none, none, none] [.ref (ad 0)]
    refine J_astore_n (q := 8) X dL_law_7 (by decide) rfl rfl ?_
    refine J_new (q := 11) X tyX10 [.null, .null, .int (jI 0), .int (jI 0), .int (jI 0), .int (jI 0), .int (jI 0), .int (jI 0), .int (jI 0), .int (jI 0), .int (jI 0), .int (jI 0), .int (jI 0), .int (jI 0), .null, .null, .null, .null, .null, .null, .null, .null, .null, .int (jI 0), .int (jI 0), .null, .null, .null, .null, .null, .int (jI 0)] dL_law_8 ⟨nL_10, iRX10.1, iRX10.2⟩ clRX10 tyX10_ok (by decide +kernel) (Nat.le_of_ble_eq_true rfl) (Nat.le_of_ble_eq_true rfl) had rfl rfl (fun E3 hk3 hs3 => ?_)
    replace hK := KI_fr hK (fun j hj => hs3 j (by omega))
    refine J_dup (q := 12) X dL_law_11 rfl rfl ?_
    refine jrI (q := 15) X mL_12 dL_law_12 (c_X10_initI hk3) had rfl rfl rfl (Nat.le_of_ble_eq_true rfl) ⟨Nat.le_of_ble_eq_true rfl, Nat.le_of_ble_eq_true rfl, Nat.le_of_ble_eq_true rfl, Nat.le_of_ble_eq_true rfl⟩ rfl (fun rv E4 hp => ?_)
    obtain ⟨rfl, hM, hf4⟩ := hp
    replace hK := KI_fr hK hf4
    show J l Γ _ 4 ad 95 95 5922 E4 15 [some (.ref b), some (.ref (ad 0)), none, none] [.ref (ad 78)]
    refine J_astore_n (q := 16) X dL_law_15 (by decide) rfl rfl ?_
    refine J_iconst (q := 17) X dL_law_16 rfl ?_
    refine J_istore_n (q := 18) X dL_law_17 (by decide) rfl rfl ?_
    exact law_loop X hX hbl hbA hL kend 2562 0 KS0 E4 (by omega) (by omega) hK hM
  have hl := lv_entry ([.ref b]) (n := 4) (Nat.le_of_ble_eq_true rfl)
  rw [lg_entry_eq]
  exact start s.heap [] _ hl ⟨fun k q h => by simp [jws] at h, ⟨fun i j p q h => by simp [jws] at h, fun k q h => by simp [jws] at h⟩⟩ va_S.rf
