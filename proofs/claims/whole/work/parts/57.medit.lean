/-! an edit of the plain one -/
theorem MR_ed {s : KS} (hk : KV s) {g g' rs un un' re ln lg ce : Int → Int} (h : MR s g rs un re ln lg ce) (hua : ∀ j, 0 ≤ j → j < 61 → un' (61 * ((if s.p = 20 then (20 : Int) else s.p + 1) - 1) + j) = g j) (hub : ∀ j, 0 ≤ j → j < 61 * ((if s.p = 20 then (20 : Int) else s.p + 1) - 1) → un' j = if s.p = 20 then un (j + 61) else un j) {n' : Int} {f' : Int → Int} (hms : MS g' n' f') (hgi : ∀ j, 61 ≤ j → j < 183 → g' j = g j) : MR (s.row n' f').ed g' rs un' re ln lg ce := by
  obtain ⟨⟨hgn, hgf⟩, him, hrs, hun, -, hsh⟩ := h
  have ho := hk.1.ho
  have hn := hk.1.hv.1
  obtain ⟨hn1, hn2⟩ := hk.2
  refine ⟨hms, fun k a b => ?_, hrs, fun t a b => ?_, fun t a b => ?_, hsh⟩
  · have hi := him k a b
    have hib := (hk.1.hi k.toNat (by omega)).1
    exact ⟨(hgi _ (by omega) (by omega)).trans hi.1, fun j c d => (hgi _ (by omega) (by have d' : j < s.im k.toNat := d; omega)).trans (hi.2 j c d)⟩
  · have b2 : t < (if s.p < 20 then s.p + 1 else s.p) := b
    obtain ⟨x, hx⟩ : ∃ x : Nat, x = (((if s.p < 20 then s.o else (s.o + 1) % 21) + t) % 21).toNat := ⟨_, rfl⟩
    have hne : ¬ x = (((if s.p < 20 then s.o else (s.o + 1) % 21) + (if s.p < 20 then s.p + 1 else s.p)) % 21).toNat := by
      rw [hx]
      by_cases hp : s.p < 20
      · rw [if_pos hp] at b2 ⊢; rw [if_pos hp]; omega
      · rw [if_neg hp] at b2 ⊢; rw [if_neg hp]; omega
    have key : RW un' (61 * t) (s.hn x) (s.hf x) := by
      by_cases hp : s.p < 20
      · rw [if_pos hp] at hx b2
        rw [if_neg (by omega)] at hua hub
        by_cases ht : t = s.p
        · have ex : x = s.ix := by rw [hx, ht]
          rw [ex]
          refine ⟨?_, fun j c d => ?_⟩
          · have e := hua 60 (by omega) (by omega)
            rw [show 61 * (s.p + 1 - 1) + 60 = 61 * t + 60 by omega] at e
            rw [e, hgn]; exact hn1.symm
          · rw [hn1] at d
            have e := hua j (by omega) (by omega)
            rw [show 61 * (s.p + 1 - 1) + j = 61 * t + j by omega] at e
            rw [e, hgf j c d]; exact (hn2 j c d).symm
        · have hr := hun t a (by omega)
          rw [← hx] at hr
          have hxb := (hk.1.hh x (by omega)).1
          refine ⟨?_, fun j c d => ?_⟩
          · rw [hub _ (by omega) (by omega), if_neg (by omega)]; exact hr.1
          · rw [hub _ (by omega) (by omega), if_neg (by omega)]; exact hr.2 j c d
      · have hp20 : s.p = 20 := by omega
        rw [if_neg hp] at hx b2
        rw [if_pos hp20] at hua hub
        by_cases ht : t = 19
        · have ex : x = s.ix := by rw [hx, ht]; show _ = ((s.o + s.p) % 21).toNat; omega
          rw [ex]
          refine ⟨?_, fun j c d => ?_⟩
          · have e := hua 60 (by omega) (by omega)
            rw [show 61 * ((20 : Int) - 1) + 60 = 61 * t + 60 by omega] at e
            rw [e, hgn]; exact hn1.symm
          · rw [hn1] at d
            have e := hua j (by omega) (by omega)
            rw [show 61 * ((20 : Int) - 1) + j = 61 * t + j by omega] at e
            rw [e, hgf j c d]; exact (hn2 j c d).symm
        · have hr := hun (t + 1) (by omega) (by omega)
          rw [show ((s.o + (t + 1)) % 21).toNat = x by omega] at hr
          have hxb := (hk.1.hh x (by omega)).1
          refine ⟨?_, fun j c d => ?_⟩
          · rw [hub _ (by omega) (by omega), if_pos hp20, show 61 * t + 60 + 61 = 61 * (t + 1) + 60 by omega]; exact hr.1
          · rw [hub _ (by omega) (by omega), if_pos hp20, show 61 * t + j + 61 = 61 * (t + 1) + j by omega]; exact hr.2 j c d
    show RW un' (61 * t) (if _ then _ else _) (if _ then _ else _)
    rw [← hx, if_neg hne, if_neg hne]
    exact key
  · have b2 : t < 0 := b
    omega
