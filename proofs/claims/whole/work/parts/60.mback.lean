/-! the plain one goes back and forth -/
theorem RW_row {u : Int → Int} {b n : Int} {h f : Int → Int} (hr : RW u b n h) {g' : Int → Int} (e : ∀ j, 0 ≤ j → j < 61 → g' j = u (b + j)) (hn : n ≤ 60) : MS g' n (icp h f 0 0 n) := by
  refine ⟨(e 60 (by omega) (by omega)).trans hr.1, fun j a b => ?_⟩
  rw [e j a (by omega), hr.2 j a b]
  show _ = (if _ then _ else _)
  rw [if_pos (by omega)]; congr 1; omega
theorem RW_now {s : KS} (hk : KV s) {g u : Int → Int} {b : Int} (hg : MS g s.n s.f) (e : ∀ j, 0 ≤ j → j < 61 → u (b + j) = g j) : RW u b (s.hn s.ix) (s.hf s.ix) := by
  have hn := hk.1.hv.1
  obtain ⟨h1, h2⟩ := hk.2
  refine ⟨(e 60 (by omega) (by omega)).trans (hg.1.trans h1.symm), fun j c d => ?_⟩
  rw [h1] at d
  rw [e j c (by omega), hg.2 j c d]; exact (h2 j c d).symm
theorem IRs_same {s : KS} (hk : KV s) {g g' : Int → Int} (h : IRs s g) (e : ∀ j, 61 ≤ j → j < 183 → g' j = g j) : IRs s g' := fun k a b => by
  have hi := h k a b
  have hib := (hk.1.hi k.toNat (by omega)).1
  exact ⟨(e _ (by omega) (by omega)).trans hi.1, fun j c d => (e _ (by omega) (by omega)).trans (hi.2 j c d)⟩
theorem MR_undo {s : KS} (hk : KV s) (hp : 1 ≤ s.p) {g rs un re ln lg ce : Int → Int} (h : MR s g rs un re ln lg ce) : MR (s.to (s.p - 1) (s.a + 1)) (cfF g un (s.p - 1) 61) rs un (kiF g re s.a 61) ln lg ce := by
  obtain ⟨hg, him, hrs, hun, hre, hsh⟩ := h
  have ho := hk.1.ho
  have hx := (hk.1.hh ((s.o + (s.p - 1)) % 21).toNat (by omega)).1
  refine ⟨RW_row (hun (s.p - 1) (by omega) (by omega)) (fun j a b => if_pos ⟨a, b⟩) hx.2, IRs_same hk him (fun j a b => if_neg (by omega)), hrs, fun t a b => hun t a (by have b' : t < s.p - 1 := b; omega), fun t a b => ?_, hsh⟩
  have b' : t < s.a + 1 := b
  show RW _ _ (s.hn ((s.o + (s.p - 1 + (s.a + 1 - t))) % 21).toNat) (s.hf ((s.o + (s.p - 1 + (s.a + 1 - t))) % 21).toNat)
  rw [show s.p - 1 + (s.a + 1 - t) = s.p + (s.a - t) by omega]
  by_cases ht : t = s.a
  · subst ht
    rw [show s.p + (s.a - s.a) = s.p by omega]
    exact RW_now hk hg (fun j c d => by show (if _ then _ else _) = _; rw [if_pos (by omega)]; congr 1; omega)
  · have hr := hre t a (by omega)
    have hxb := (hk.1.hh ((s.o + (s.p + (s.a - t))) % 21).toNat (by omega)).1
    exact ⟨(if_neg (by omega)).trans hr.1, fun j c d => (if_neg (by omega)).trans (hr.2 j c d)⟩
theorem MR_redo {s : KS} (hk : KV s) (ha : 1 ≤ s.a) {g rs un un' re ln lg ce : Int → Int} (h : MR s g rs un re ln lg ce) (hua : ∀ j, 0 ≤ j → j < 61 → un' (61 * ((if s.p = 20 then (20 : Int) else s.p + 1) - 1) + j) = g j) (hub : ∀ j, 0 ≤ j → j < 61 * ((if s.p = 20 then (20 : Int) else s.p + 1) - 1) → un' j = if s.p = 20 then un (j + 61) else un j) : MR (s.to (s.p + 1) (s.a - 1)) (cfF g re (s.a - 1) 61) rs un' re ln lg ce := by
  obtain ⟨hg, him, hrs, hun, hre, hsh⟩ := h
  have ho := hk.1.ho
  rw [if_neg (show ¬ s.p = 20 by omega)] at hua hub
  have hr := hre (s.a - 1) (by omega) (by omega)
  rw [show s.p + (s.a - (s.a - 1)) = s.p + 1 by omega] at hr
  have hx := (hk.1.hh ((s.o + (s.p + 1)) % 21).toNat (by omega)).1
  refine ⟨RW_row hr (fun j a b => if_pos ⟨a, b⟩) hx.2, IRs_same hk him (fun j a b => if_neg (by omega)), hrs, fun t a b => ?_, fun t a b => ?_, hsh⟩
  · have b' : t < s.p + 1 := b
    show RW _ _ (s.hn ((s.o + t) % 21).toNat) (s.hf ((s.o + t) % 21).toNat)
    by_cases ht : t = s.p
    · subst ht
      exact RW_now hk hg (fun j c d => by have e := hua j c d; rw [show 61 * (s.p + 1 - 1) + j = 61 * s.p + j by omega] at e; exact e)
    · have hr2 := hun t a (by omega)
      have hxb := (hk.1.hh ((s.o + t) % 21).toNat (by omega)).1
      exact ⟨((hub _ (by omega) (by omega)).trans (if_neg (by omega))).trans hr2.1, fun j c d => ((hub _ (by omega) (by omega)).trans (if_neg (by omega))).trans (hr2.2 j c d)⟩
  · have b' : t < s.a - 1 := b
    show RW _ _ (s.hn ((s.o + (s.p + 1 + (s.a - 1 - t))) % 21).toNat) (s.hf ((s.o + (s.p + 1 + (s.a - 1 - t))) % 21).toNat)
    rw [show s.p + 1 + (s.a - 1 - t) = s.p + (s.a - t) by omega]
    exact hre t a (by omega)
theorem MR_keep {s : KS} (hk : KV s) {k : Int} (hkb : 0 ≤ k ∧ k < 2) {g rs un re ln lg ce : Int → Int} (h : MR s g rs un re ln lg ce) : MR (s.kept k) (coF g 0 (61 * k + 61) 61) rs un re ln lg ce := by
  obtain ⟨hg, him, hrs, hun, hre, hsh⟩ := h
  have hn := hk.1.hv.1
  refine ⟨⟨(if_neg (by omega)).trans hg.1, fun j a b => (if_neg (by have b' : j < s.n := b; omega)).trans (hg.2 j a b)⟩, fun q a b => ?_, hrs, hun, hre, hsh⟩
  show RW _ _ (if q.toNat = k.toNat then s.n else s.im q.toNat) (if q.toNat = k.toNat then icp s.f (s.imf q.toNat) 0 0 s.n else s.imf q.toNat)
  by_cases e : q.toNat = k.toNat
  · have e2 : q = k := by omega
    subst e2
    rw [if_pos e, if_pos e]
    refine ⟨?_, fun j c d => ?_⟩
    · show (if _ then _ else _) = _
      rw [if_pos (by omega), show 0 + (61 * q + 61 + 60 - (61 * q + 61)) = 60 by omega]; exact hg.1
    · show (if _ then _ else _) = (if _ then _ else _)
      rw [if_pos (by omega), if_pos (by omega), show 0 + (61 * q + 61 + j - (61 * q + 61)) = j by omega, hg.2 j c d]
      congr 1; omega
  · rw [if_neg e, if_neg e]
    have hi := him q a b
    have hib := (hk.1.hi q.toNat (by omega)).1
    exact ⟨(if_neg (by omega)).trans hi.1, fun j c d => (if_neg (by omega)).trans (hi.2 j c d)⟩
theorem MR_back {s : KS} (hk : KV s) {k : Int} (hkb : 0 ≤ k ∧ k < 2) {g rs un re ln lg ce : Int → Int} (h : MR s g rs un re ln lg ce) : MR (s.row (s.im k.toNat) (icp (s.imf k.toNat) s.f 0 0 (s.im k.toNat))).anew (coF g (61 * k + 61) 0 61) rs un re ln lg ce := by
  obtain ⟨hg, him, hrs, hun, hre, hsh⟩ := h
  have hib := (hk.1.hi k.toNat (by omega)).1
  refine ⟨RW_row (him k hkb.1 hkb.2) (fun j a b => ?_) hib.2, IRs_same hk him (fun j a b => if_neg (by omega)), hrs, fun t a b => ?_, fun t a b => ?_, hsh⟩
  · show (if _ then _ else _) = _
    rw [if_pos (by omega)]; congr 1; omega
  · have b' : t < 0 := b
    omega
  · have b' : t < 0 := b
    omega
