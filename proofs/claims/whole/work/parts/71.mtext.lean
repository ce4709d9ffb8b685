/-! a text, taken by the plain one -/
theorem MR_fail {s : KS} (hk : KV s) {g g' rs rs' un re ln lg ce : Int → Int} {b0 b2 b3 b4 : Int} (h : MR s g rs un re ln lg ce) (hg : ∀ j, j < 183 ∨ 244 ≤ j → g' j = g j) (hr : rs' 0 = (if b0 = 0 ∨ b0 = 6 then -4 else b2) ∧ rs' 1 = (if b0 = 0 ∨ b0 = 6 then -4 else b3) ∧ rs' 2 = (if b0 = 0 ∨ b0 = 6 then -4 else b4)) : MR ((s.tape 0 s.tb).blame b0 b2 b3 b4) g' rs' un re ln lg ce := by
  obtain ⟨hgn, him, hrs, hun, hre, hsh⟩ := h
  have hn := hk.1.hv.1
  exact ⟨⟨(hg 60 (by omega)).trans hgn.1, fun j a b => (hg j (by have b' : j < s.n := b; omega)).trans (hgn.2 j a b)⟩, IRs_same hk him (fun j a b => hg j (by omega)), hr, hun, hre, hsh⟩
theorem MR_told {s : KS} (hk : KV s) {g g' rs rs' un re ln lg ce : Int → Int} (h0 : (R0 s.tb s.tl).1 = 0) (h : MR s g rs un re ln lg ce) (hg : ∀ j, j < 183 ∨ 244 ≤ j → g' j = g j) (hn : g' 243 = (R0 s.tb s.tl).2.2.2.2.2.1) (hf : ∀ j, 0 ≤ j → j < (R0 s.tb s.tl).2.2.2.2.2.1 → g' (183 + j) = mkF (R0 s.tb s.tl).2.2.2.2.2.2.2 (R0 s.tb s.tl).2.2.2.2.2.2.1 j) (hr : rs' 0 = -4 ∧ rs' 1 = -4 ∧ rs' 2 = -4) : MR s.told.anew (coF g' 183 0 61) rs' un re ln lg ce := by
  obtain ⟨hgn, him, hrs, hun, hre, hsh⟩ := h
  have hnb : 0 ≤ (R0 s.tb s.tl).2.2.2.2.2.1 ∧ (R0 s.tb s.tl).2.2.2.2.2.1 ≤ 60 := ((R0_fin hk.1.htb).2 h0).1
  have him2 : IRs s (coF g' 183 0 61) := IRs_same hk him (fun j a b => (if_neg (by omega)).trans (hg j (by omega)))
  refine ⟨⟨?_, fun j a b => ?_⟩, him2, ⟨?_, ?_, ?_⟩, fun t a b => ?_, fun t a b => ?_, hsh⟩
  · show (if _ then _ else _) = (R0 s.tb s.tl).2.2.2.2.2.1
    rw [if_pos (by omega)]; exact hn
  · have b' : j < (R0 s.tb s.tl).2.2.2.2.2.1 := b
    show (if _ then _ else _) = (if _ then _ else _)
    rw [if_pos (by omega), if_pos (by omega), show 183 + (j - 0) = 183 + j by omega, hf j a b', show 0 + (j - 0) = j by omega]
  · exact hr.1.trans (if_pos (Or.inl h0)).symm
  · exact hr.2.1.trans (if_pos (Or.inl h0)).symm
  · exact hr.2.2.trans (if_pos (Or.inl h0)).symm
  · have b' : t < 0 := b
    omega
  · have b' : t < 0 := b
    omega
/-- what stands behind the reading -/
def FN (r : RS) (b ba ln tk y wi : Int) (g : Int → Int) : Prop := (b = r.1 ∧ 0 ≤ b ∧ b ≤ 6) ∧ (b ≠ 0 → ba = r.2.1) ∧ ((wi = 1 ∧ b ≠ 0 ∧ b ≠ 6 ∧ ln = r.2.2.1 ∧ tk = r.2.2.2.1 ∧ y = r.2.2.2.2.1) ∨ (wi = 0 ∧ (b = 0 ∨ b = 6))) ∧ (b = 0 → g 243 = r.2.2.2.2.2.1 ∧ ∀ j, 0 ≤ j → j < r.2.2.2.2.2.1 → g (183 + j) = mkF r.2.2.2.2.2.2.2 r.2.2.2.2.2.2.1 j)
theorem FN_br {r : RS} {tb : Int → Int} {tl z0 x mg ti b ba t h k v ln tk y : Int} {g ma g' : Int → Int} (hb : b ≠ 0) (hq : TQ r tb tl z0 x mg ti b ba t h k v ln tk y g ma) : FN r b ba ln tk y 1 g' := by
  have hbl := hq.2.1 hb
  have hbb := hq.1.2.2
  exact ⟨⟨hbl.1.symm, by omega, by omega⟩, fun _ => hbl.2.1.symm, Or.inl ⟨rfl, hb, by omega, hbl.2.2.1.symm, hbl.2.2.2.1.symm, hbl.2.2.2.2.symm⟩, fun z => absurd z hb⟩
theorem FN_end {r : RS} {tb : Int → Int} {tl z0 mg ti ba t h v ln tk y : Int} {g ma : Int → Int} (hq : TQ r tb tl z0 1 mg ti 0 ba t h 0 v ln tk y g ma) : ∃ (n : Int) (f : Int → Int), RG g n f ∧ (okM ma f n → MBm ma → ∀ g' : Int → Int, (∀ j, j < 183 ∨ 243 ≤ j → g' j = g j) → (∀ j, 0 ≤ j → j < 60 → g' (183 + j) = g (183 + j) + (if ma j = 1 then 128 else 0)) → FN r 0 ba ln tk y 0 g') ∧ (¬ okM ma f n → ∀ g' : Int → Int, FN r 6 h ln tk y 0 g') := by
  obtain ⟨fu, i, n, f, hi, hfu, hF, e1, e2, e3, e5, e6, hg, hr⟩ := hq.2.2 rfl
  obtain ⟨m, rfl⟩ : ∃ m, fu = m + 1 := ⟨fu - 1, by omega⟩
  have ha := tkA_bd (tb := tb) (tl := tl) (i := i) (by omega)
  have hh : h = tl := by
    unfold tkK at e2
    by_cases z : tl ≤ h
    · omega
    · rw [if_neg z] at e2
      split at e2 <;> (try split at e2) <;> (try split at e2) <;> omega
  refine ⟨n, f, hg, fun hok hmb g' hg1 hg2 => ?_, fun hno g' => ?_⟩
  · subst e1
    rw [run_end hF e2.symm rfl, if_pos hok] at hr
    rw [hr]
    refine ⟨⟨rfl, by decide, by decide⟩, fun z => absurd rfl z, Or.inr ⟨rfl, Or.inl rfl⟩, fun _ => ⟨(hg1 243 (by omega)).trans hg.2.1, fun j p q => ?_⟩⟩
    have q' : j < n := q
    have hfj := hg.2.2 j p q'
    have hsg : sgn (f j) := hfj.2
    have hfb : 0 ≤ f j ∧ f j ≤ 127 := by omega
    have hmj := hmb j p (by omega)
    rw [hg2 j p (by omega), hfj.1]
    show _ = (if 0 ≤ j ∧ j < 60 ∧ ma j ≠ 0 then f j % 128 + 128 else f j)
    rcases hmj with z | z
    · rw [if_neg (by omega), if_neg (by omega)]; omega
    · rw [if_pos z, if_pos (by omega)]; omega
  · subst e1
    rw [run_end hF e2.symm rfl, if_neg hno] at hr
    rw [hr]
    exact ⟨⟨rfl, by decide, by decide⟩, fun _ => hh, Or.inr ⟨rfl, Or.inr rfl⟩, fun z => absurd z (by decide)⟩
