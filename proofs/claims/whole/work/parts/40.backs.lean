/-! back and forth, images, sheets -/
abbrev KS.to (s : KS) (p a : Int) : KS := (s.row (s.hn ((s.o + p) % 21).toNat) (icp (s.hf ((s.o + p) % 21).toNat) s.f 0 0 (s.hn ((s.o + p) % 21).toNat))).hist s.o p a s.hn s.hf
def qUndo (s : KS) : Int × KS := if s.p < 1 then (-2, s) else (s.hn ((s.o + (s.p - 1)) % 21).toNat, s.to (s.p - 1) (s.a + 1))
def qRedo (s : KS) : Int × KS := if s.a < 1 then (-2, s) else (s.hn ((s.o + (s.p + 1)) % 21).toNat, s.to (s.p + 1) (s.a - 1))
theorem kv_to {s : KS} (h : KV s) {p a : Int} (hp : 0 ≤ p ∧ 0 ≤ a ∧ p + a ≤ 20) : KV (s.to p a) := by
  have ho := h.1.ho
  have hh := h.1.hh ((s.o + p) % 21).toNat (by omega)
  refine ⟨⟨VR_icp hh, ⟨ho.1, ho.2.1, hp.1, hp.2.1, hp.2.2⟩, h.1.2.2⟩, rfl, fun j a b => ?_⟩
  show s.hf _ j = (if _ then _ else _)
  have b' : j < s.hn ((s.o + p) % 21).toNat := b
  rw [if_pos (show 0 ≤ j ∧ j < 0 + s.hn ((s.o + p) % 21).toNat by omega)]
  show s.hf _ _ = s.hf _ _
  congr 1; omega
abbrev KS.kept (s : KS) (k : Int) : KS := s.imgs (iu s.kp k 1) (fun i => if i = k.toNat then s.n else s.im i) (fun i => if i = k.toNat then icp s.f (s.imf i) 0 0 s.n else s.imf i)
def qKeep (s : KS) (k : Int) : Int × KS := if ¬ (0 ≤ k ∧ k < 2) then (-1, s) else (s.kp k, s.kept k)
theorem kv_kept {s : KS} (h : KV s) (k : Int) : KV (s.kept k) := by
  refine ⟨⟨h.1.hv, h.1.ho, h.1.hh, fun i hi => ?_, fun j a b => ?_, h.1.htb, h.1.hb, h.1.hs⟩, h.2⟩
  · show VR (if _ then _ else _) (if _ then _ else _)
    split
    · exact VR_icp h.1.hv
    · exact h.1.hi i hi
  · show (if _ then _ else _) = _ ∨ (if _ then _ else _) = _
    split
    · exact Or.inr rfl
    · exact h.1.hkp j a b
def qBack (s : KS) (k : Int) : Int × KS := if ¬ (0 ≤ k ∧ k < 2) then (-1, s) else if s.kp k = 0 then (-2, s) else (s.im k.toNat, (s.row (s.im k.toNat) (icp (s.imf k.toNat) s.f 0 0 (s.im k.toNat))).anew)
abbrev KS.made (s : KS) (k w m : Int) : KS := s.shts (fun i => if i = k.toNat then 1 else s.th i) (fun i => if i = k.toNat then w else s.la i) (fun i => if i = k.toNat then m else s.sn i) (fun i => if i = k.toNat then (fun t => if 0 ≤ t ∧ t < m then 0 else s.sf i t) else s.sf i)
def qSheet (s : KS) (k w m : Int) : Int × KS := if ¬ ((0 ≤ k ∧ k < 4) ∧ (0 ≤ w ∧ w < 3) ∧ m ≤ 40) then (-1, s) else if m < 0 then (-14, s) else (1, s.made k w m)
theorem kv_made {s : KS} (h : KV s) {k w m : Int} (hw : 0 ≤ w ∧ w < 3) (hm : 0 ≤ m ∧ m ≤ 40) : KV (s.made k w m) := by
  refine ⟨⟨h.1.hv, h.1.ho, h.1.hh, h.1.hi, h.1.hkp, h.1.htb, h.1.hb, fun i hi => ?_⟩, h.2⟩
  have hs := h.1.hs i hi
  by_cases e : i = k.toNat
  · simp only [KS.made, KS.shts, KS.th, KS.la, KS.sn, KS.sf, if_pos e]
    refine ⟨by simp, by omega, by omega, fun j a b => ?_⟩
    split
    · omega
    · exact hs.2.2.2 j a b
  · simp only [KS.made, KS.shts, KS.th, KS.la, KS.sn, KS.sf, if_neg e]
    exact hs
abbrev faN (s : KS) (k w i : Int) : Int := if s.th k.toNat = 0 then 1 else if w ≠ s.la k.toNat then 3 else if i < 0 ∨ s.sn k.toNat ≤ i then 2 else 0
abbrev KS.laid (s : KS) (k i v : Int) : KS := s.shts s.th s.la s.sn (fun j => if j = k.toNat then iu (s.sf j) i (lanev (s.la j) v) else s.sf j)
def qLay (s : KS) (k i v : Int) : Int × KS := if ¬ (0 ≤ k ∧ k < 4) then (-1, s) else if faN s k (s.la k.toNat) i ≠ 0 then (-10 - faN s k (s.la k.toNat) i, s) else (1, s.laid k i v)
theorem lanev_bd {la v : Int} (hv : -2147483648 ≤ v ∧ v < 2147483648) : -2147483648 ≤ lanev la v ∧ lanev la v < 2147483648 := by
  unfold lanev
  have h1 := Int.bmod_lt (x := v) (m := 256) (by omega)
  have h2 := Int.le_bmod (x := v) (m := 256) (by omega)
  have h3 := Int.bmod_lt (x := v) (m := 65536) (by omega)
  have h4 := Int.le_bmod (x := v) (m := 65536) (by omega)
  repeat' split
  all_goals omega
theorem kv_laid {s : KS} (h : KV s) {k i v : Int} (hv : -2147483648 ≤ v ∧ v < 2147483648) : KV (s.laid k i v) := by
  refine ⟨⟨h.1.hv, h.1.ho, h.1.hh, h.1.hi, h.1.hkp, h.1.htb, h.1.hb, fun j hj => ?_⟩, h.2⟩
  have hs := h.1.hs j hj
  refine ⟨hs.1, hs.2.1, hs.2.2.1, fun t a b => ?_⟩
  show _ ≤ (if _ then iu _ _ _ else _) t ∧ (if _ then iu _ _ _ else _) t < _
  split
  · show _ ≤ (if _ then _ else _) ∧ (if _ then _ else _) < _
    split
    · exact lanev_bd hv
    · exact hs.2.2.2 t a b
  · exact hs.2.2.2 t a b
