set_option maxRecDepth 100000 in
set_option maxHeartbeats 4000000 in
theorem jenv_start {s : State} {b : Nat} (hts : ∀ w ∈ lw_tbl, w.before #[Value.ref b] s = true) (hgv : (Jvm.Cond.and given_1 narrow_1).before #[Value.ref b] s = true) : ∃ Γ : JG, Γ.1 = s.heap.size ∧ jenv Γ s := by
  have htw : ∀ w ∈ tw, w.before #[Value.ref b] s = true := fun w hw => hts w (List.mem_filter.mp hw).1
  have hs := flat_of_before _ hgv
  have hA : ∀ a : Nat, a < s.heap.size → ¬ (fun q : Nat => s.heap.size ≤ q) a := fun a h => Nat.not_le.mpr h
  obtain ⟨c0, i0, hk0⟩ := u_known (C := RX0) (T := TX0) (N := 5) (n := 5) htw inRX0 (htw _ iRX0.1)
  obtain ⟨c1, i1, hk1⟩ := u_known (C := RX1) (T := TX1) (N := 8) (n := 8) htw inRX1 (htw _ iRX1.1)
  obtain ⟨c2, i2, hk2⟩ := u_known (C := RX2) (T := TX2) (N := 4) (n := 4) htw inRX2 (htw _ iRX2.1)
  obtain ⟨c3, i3, hk3⟩ := u_known (C := RX3) (T := TX3) (N := 2) (n := 2) htw inRX3 (htw _ iRX3.1)
  obtain ⟨c4, i4, hk4⟩ := u_known (C := RX4) (T := TX4) (N := 4) (n := 4) htw inRX4 (htw _ iRX4.1)
  obtain ⟨c5, i5, hk5⟩ := u_known (C := RX6) (T := TX6) (N := 2) (n := 2) htw inRX6 (htw _ iRX6.1)
  obtain ⟨c6, i6, hk6⟩ := u_known (C := RX7) (T := TX7) (N := 8) (n := 8) htw inRX7 (htw _ iRX7.1)
  obtain ⟨c7, i7, hk7⟩ := u_known (C := RX8) (T := TX8) (N := 6) (n := 6) htw inRX8 (htw _ iRX8.1)
  obtain ⟨c8, i8, hk8⟩ := u_known (C := RX9) (T := TX9) (N := 9) (n := 9) htw inRX9 (htw _ iRX9.1)
  obtain ⟨c9, i9, hk9⟩ := u_known (C := RX10) (T := TX10) (N := 31) (n := 31) htw inRX10 (htw _ iRX10.1)
  obtain ⟨a0, kA0, p0, f01, f02, f03⟩ := Cond.arrayClass_spec (type := .int) (hts _ (List.mem_of_getElem? (i := 118) (by decide +kernel)))
  obtain ⟨a1, kA1, p1, f11, f12, f13⟩ := Cond.arrayClass_spec (type := .boolean) (hts _ (List.mem_of_getElem? (i := 212) (by decide +kernel)))
  have hao3 : va_AO RX3 s := va_AO.of (hts _ (List.mem_of_getElem? (i := 260) (by decide +kernel)))
  have hao4 : va_AO RX4 s := va_AO.of (hts _ (List.mem_of_getElem? (i := 280) (by decide +kernel)))
  obtain ⟨p2, a2, kA2, f21, -, f22, f23, f24⟩ := Cond.arrayOver_spec hao3
  obtain ⟨p3, a3, kA3, f31, -, f32, f33, f34⟩ := Cond.arrayOver_spec hao4
  obtain ⟨gr, hgr, hgT⟩ := va_Tof (tm := .static "FoldKeeper" "GROWN" "[C") (ty := .char) (N := 9) (f := fun j => .int (jI (jgrown.getD j 0))) (A := fun q : Nat => s.heap.size ≤ q) (by decide) (hs _ (by decide +kernel)) (va_eqt (hs _ (by decide +kernel))) (fun j hj => by
    match j, hj with
    | 0, _ => exact va_eqt (hs _ (by decide +kernel))
    | 1, _ => exact va_eqt (hs _ (by decide +kernel))
    | 2, _ => exact va_eqt (hs _ (by decide +kernel))
    | 3, _ => exact va_eqt (hs _ (by decide +kernel))
    | 4, _ => exact va_eqt (hs _ (by decide +kernel))
    | 5, _ => exact va_eqt (hs _ (by decide +kernel))
    | 6, _ => exact va_eqt (hs _ (by decide +kernel))
    | 7, _ => exact va_eqt (hs _ (by decide +kernel))
    | 8, _ => exact va_eqt (hs _ (by decide +kernel))
    | j + 9, h => exact absurd h (by omega)) hA
  obtain ⟨aK, aV, hSt, hEv⟩ := vk_Sof (N := 3) (tm := fun i => .string "FoldKeeper$TextReader" ([93, 103, 109].getD i 0)) (len := jlen) (byt := jbyt) (A := fun q : Nat => s.heap.size ≤ q)
    (fun i hi => by
      match i, hi with
      | 0, _ => decide
      | 1, _ => decide
      | 2, _ => decide
      | i + 3, h => exact absurd h (by omega))
    (fun i hi => by
      match i, hi with
      | 0, _ => exact hs _ (by decide +kernel)
      | 1, _ => exact hs _ (by decide +kernel)
      | 2, _ => exact hs _ (by decide +kernel)
      | i + 3, h => exact absurd h (by omega))
    (fun i hi => by
      match i, hi with
      | 0, _ => exact hs _ (by decide +kernel)
      | 1, _ => exact hs _ (by decide +kernel)
      | 2, _ => exact hs _ (by decide +kernel)
      | i + 3, h => exact absurd h (by omega))
    (fun i hi => by
      match i, hi with
      | 0, _ => exact hs _ (by decide +kernel)
      | 1, _ => exact hs _ (by decide +kernel)
      | 2, _ => exact hs _ (by decide +kernel)
      | i + 3, h => exact absurd h (by omega))
    (fun i hi => by
      match i, hi with
      | 0, _ => exact hs _ (by decide +kernel)
      | 1, _ => exact hs _ (by decide +kernel)
      | 2, _ => exact hs _ (by decide +kernel)
      | i + 3, h => exact absurd h (by omega))
    (fun i hi j hj => by
      match i, hi, j, hj with
      | 0, _, 0, _ => exact hs _ (by decide +kernel)
      | 0, _, 1, _ => exact hs _ (by decide +kernel)
      | 0, _, 2, _ => exact hs _ (by decide +kernel)
      | 0, _, 3, _ => exact hs _ (by decide +kernel)
      | 1, _, 0, _ => exact hs _ (by decide +kernel)
      | 1, _, 1, _ => exact hs _ (by decide +kernel)
      | 1, _, 2, _ => exact hs _ (by decide +kernel)
      | 2, _, 0, _ => exact hs _ (by decide +kernel)
      | 2, _, 1, _ => exact hs _ (by decide +kernel)
      | 2, _, 2, _ => exact hs _ (by decide +kernel)
      | 0, _, j + 4, h => exact absurd h (by show ¬ (j + 4 < 4); omega)
      | 1, _, j + 3, h => exact absurd h (by show ¬ (j + 3 < 3); omega)
      | 2, _, j + 3, h => exact absurd h (by show ¬ (j + 3 < 3); omega)
      | i + 3, h, _, _ => exact absurd h (by omega))
    (fun i j hi hj hij => by
      match i, hi, j, hj, hij with
      | 0, _, 0, _, h => exact absurd rfl h
      | 0, _, 1, _, h => exact (by first | exact Or.inl (hs _ (by decide +kernel)) | exact Or.inr (hs _ (by decide +kernel)))
      | 0, _, 2, _, h => exact (by first | exact Or.inl (hs _ (by decide +kernel)) | exact Or.inr (hs _ (by decide +kernel)))
      | 1, _, 0, _, h => exact (by first | exact Or.inl (hs _ (by decide +kernel)) | exact Or.inr (hs _ (by decide +kernel)))
      | 1, _, 1, _, h => exact absurd rfl h
      | 1, _, 2, _, h => exact (by first | exact Or.inl (hs _ (by decide +kernel)) | exact Or.inr (hs _ (by decide +kernel)))
      | 2, _, 0, _, h => exact (by first | exact Or.inl (hs _ (by decide +kernel)) | exact Or.inr (hs _ (by decide +kernel)))
      | 2, _, 1, _, h => exact (by first | exact Or.inl (hs _ (by decide +kernel)) | exact Or.inr (hs _ (by decide +kernel)))
      | 2, _, 2, _, h => exact absurd rfl h
      | i + 3, h, _, _, _ => exact absurd h (by omega)
      | _, _, j + 3, h, _ => exact absurd h (by omega)) hA
  refine ⟨(s.heap.size, (fun k => [c0, c1, c2, c3, c4, c5, c6, c7, c8, c9].getD k 0, fun k => [i0, i1, i2, i3, i4, i5, i6, i7, i8, i9].getD k (fun _ => 0)), fun k => [a0, a1, a2, a3].getD k 0, gr, aK, aV), rfl, ?_⟩
  refine ⟨⟨?_, ?_⟩, ?_, ⟨?_, hgT⟩, ⟨?_, ?_⟩, ⟨hSt, ?_, ?_, ?_⟩, ⟨hao3, hao4⟩, Nat.le_refl _⟩
  · intro k q hq
    match k, hq with
    | 0, hq => cases hq; exact hk0
    | 1, hq => cases hq; exact hk1
    | 2, hq => cases hq; exact hk2
    | 3, hq => cases hq; exact hk3
    | 4, hq => cases hq; exact hk4
    | 5, hq => cases hq; exact hk5
    | 6, hq => cases hq; exact hk6
    | 7, hq => cases hq; exact hk7
    | 8, hq => cases hq; exact hk8
    | 9, hq => cases hq; exact hk9
    | k + 10, hq => simp [vwCl] at hq
  · intro k q hq
    match k, hq with
    | 0, hq => cases hq; exact ⟨fun n z => ⟨fun k h => (by cases h), kA0, f02, p0, f03⟩, f01⟩
    | 1, hq => cases hq; exact ⟨fun n z => ⟨fun k h => (by cases h), kA1, f12, p1, f13⟩, f11⟩
    | 2, hq => cases hq; exact ⟨fun n z => ⟨fun k h => (by cases h), kA2, f22, p2, f23⟩, kA2, p2, f22, f23, f21, f24⟩
    | 3, hq => cases hq; exact ⟨fun n z => ⟨fun k h => (by cases h), kA3, f32, p3, f33⟩, kA3, p3, f32, f33, f31, f34⟩
    | k + 4, hq => simp [jtys] at hq
  · intro w hw
    have h1 := hts w (List.mem_filter.mp hw).1
    have h2 := (List.mem_filter.mp hw).2
    cases w <;> first | exact va_Nw.of rfl h1 | (simp at h2; done)
  · exact va_Zref (hts _ (List.mem_of_getElem? (i := 785) (by decide +kernel))) (hts _ (List.mem_of_getElem? (i := 63) (by decide +kernel))) hgr hA
  · exact va_Zof (hts _ (List.mem_of_getElem? (i := 460) (by decide +kernel))) (hts _ (List.mem_of_getElem? (i := 74) (by decide +kernel))) (va_eqt (hs _ (by decide +kernel))) hA
  · exact va_Zqof (hts _ (List.mem_of_getElem? (i := 476) (by decide +kernel))) (hts _ (List.mem_of_getElem? (i := 76) (by decide +kernel))) (hs _ (by decide +kernel)) hA
  · exact vk_R.of (hts _ (List.mem_of_getElem? (i := 446) (by decide +kernel))) (hEv 0 (by decide))
  · exact vk_R.of (hts _ (List.mem_of_getElem? (i := 499) (by decide +kernel))) (hEv 1 (by decide))
  · exact vk_R.of (hts _ (List.mem_of_getElem? (i := 508) (by decide +kernel))) (hEv 2 (by decide))
