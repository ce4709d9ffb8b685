/-! the keeper's state: what its cells hold, and what holds of it -/
abbrev KS : Type := (Int × (Int → Int)) × (Int × Int × Int × Int) × (Int × (Int → Int)) × (Int × Int × Int × (Nat → Int) × (Nat → Int → Int)) × ((Int → Int) × (Nat → Int) × (Nat → Int → Int)) × ((Nat → Int) × (Nat → Int) × (Nat → Int) × (Nat → Int → Int)) × Int
abbrev KS.tl (s : KS) : Int := s.1.1
abbrev KS.tb (s : KS) : Int → Int := s.1.2
abbrev KS.b0 (s : KS) : Int := s.2.1.1
abbrev KS.b2 (s : KS) : Int := s.2.1.2.1
abbrev KS.b3 (s : KS) : Int := s.2.1.2.2.1
abbrev KS.b4 (s : KS) : Int := s.2.1.2.2.2
abbrev KS.n (s : KS) : Int := s.2.2.1.1
abbrev KS.f (s : KS) : Int → Int := s.2.2.1.2
abbrev KS.o (s : KS) : Int := s.2.2.2.1.1
abbrev KS.p (s : KS) : Int := s.2.2.2.1.2.1
abbrev KS.a (s : KS) : Int := s.2.2.2.1.2.2.1
abbrev KS.hn (s : KS) : Nat → Int := s.2.2.2.1.2.2.2.1
abbrev KS.hf (s : KS) : Nat → Int → Int := s.2.2.2.1.2.2.2.2
abbrev KS.kp (s : KS) : Int → Int := s.2.2.2.2.1.1
abbrev KS.im (s : KS) : Nat → Int := s.2.2.2.2.1.2.1
abbrev KS.imf (s : KS) : Nat → Int → Int := s.2.2.2.2.1.2.2
abbrev KS.th (s : KS) : Nat → Int := s.2.2.2.2.2.1.1
abbrev KS.la (s : KS) : Nat → Int := s.2.2.2.2.2.1.2.1
abbrev KS.sn (s : KS) : Nat → Int := s.2.2.2.2.2.1.2.2.1
abbrev KS.sf (s : KS) : Nat → Int → Int := s.2.2.2.2.2.1.2.2.2
abbrev KS.tor (s : KS) : Int := s.2.2.2.2.2.2
abbrev KS.tape (s : KS) (tl : Int) (tb : Int → Int) : KS := ((tl, tb), s.2)
abbrev KS.blame (s : KS) (b0 b2 b3 b4 : Int) : KS := (s.1, (b0, b2, b3, b4), s.2.2)
abbrev KS.row (s : KS) (n : Int) (f : Int → Int) : KS := (s.1, s.2.1, (n, f), s.2.2.2)
abbrev KS.hist (s : KS) (o p a : Int) (hn : Nat → Int) (hf : Nat → Int → Int) : KS := (s.1, s.2.1, s.2.2.1, (o, p, a, hn, hf), s.2.2.2.2)
abbrev KS.imgs (s : KS) (kp : Int → Int) (im : Nat → Int) (imf : Nat → Int → Int) : KS := (s.1, s.2.1, s.2.2.1, s.2.2.2.1, (kp, im, imf), s.2.2.2.2.2)
abbrev KS.shts (s : KS) (th la sn : Nat → Int) (sf : Nat → Int → Int) : KS := (s.1, s.2.1, s.2.2.1, s.2.2.2.1, s.2.2.2.2.1, (th, la, sn, sf), s.2.2.2.2.2.2)
abbrev KS.torn (s : KS) (t : Int) : KS := (s.1, s.2.1, s.2.2.1, s.2.2.2.1, s.2.2.2.2.1, s.2.2.2.2.2.1, t)
abbrev gd (c : Int) : Prop := (0 ≤ c ∧ c < 256) ∧ sgn (c % 128) ∧ (128 ≤ c → opn (c % 128))
abbrev HB (s : KS) : Prop := 0 ≤ s.o ∧ s.o < 21 ∧ 0 ≤ s.p ∧ 0 ≤ s.a ∧ s.p + s.a ≤ 20
abbrev SB (s : KS) : Prop := ∀ i : Nat, i < 4 → (s.th i = 0 ∨ s.th i = 1) ∧ (0 ≤ s.la i ∧ s.la i ≤ 2) ∧ (0 ≤ s.sn i ∧ s.sn i ≤ 40) ∧ ∀ j : Int, 0 ≤ j → j < 40 → -2147483648 ≤ s.sf i j ∧ s.sf i j < 2147483648
def KV0 (s : KS) : Prop := VR s.f s.n ∧ HB s ∧ (∀ i : Nat, i < 21 → VR (s.hf i) (s.hn i)) ∧ (∀ i : Nat, i < 2 → VR (s.imf i) (s.im i)) ∧ (∀ j : Int, 0 ≤ j → j < 2 → s.kp j = 0 ∨ s.kp j = 1) ∧ TB s.tl s.tb ∧ (0 ≤ s.b0 ∧ s.b0 ≤ 6) ∧ SB s
theorem KV0.hv {s : KS} (h : KV0 s) : VR s.f s.n := h.1
theorem KV0.ho {s : KS} (h : KV0 s) : HB s := h.2.1
theorem KV0.hh {s : KS} (h : KV0 s) : ∀ i : Nat, i < 21 → VR (s.hf i) (s.hn i) := h.2.2.1
theorem KV0.hi {s : KS} (h : KV0 s) : ∀ i : Nat, i < 2 → VR (s.imf i) (s.im i) := h.2.2.2.1
theorem KV0.hkp {s : KS} (h : KV0 s) : ∀ j : Int, 0 ≤ j → j < 2 → s.kp j = 0 ∨ s.kp j = 1 := h.2.2.2.2.1
theorem KV0.htb {s : KS} (h : KV0 s) : TB s.tl s.tb := h.2.2.2.2.2.1
theorem KV0.hb {s : KS} (h : KV0 s) : 0 ≤ s.b0 ∧ s.b0 ≤ 6 := h.2.2.2.2.2.2.1
theorem KV0.hs {s : KS} (h : KV0 s) : SB s := h.2.2.2.2.2.2.2
abbrev KS.ix (s : KS) : Nat := ((s.o + s.p) % 21).toNat
def KV (s : KS) : Prop := KV0 s ∧ s.hn s.ix = s.n ∧ ∀ j : Int, 0 ≤ j → j < s.n → s.hf s.ix j = s.f j
/-- the keeper's cells over a state; Q tells of what the survey left -/
def KJ (Γ : JG) (ad : Nat → Nat) (E : Nat → va_E) (s : KS) (Q : (Int → Int) → (Int → Int) → (Int → Int) → (Int → Int) → (Int → Int) → (Int → Int) → Prop) : Prop :=
  ∃ (x mk ti k0 ka kb kv dm b1 : Int) (df ma pa al hp de sl le hi : Int → Int), (E 0 = .inr (8, [.ref (ad 1), .ref (ad 3), .ref (ad 9), .ref (ad 10), .ref (ad 19), .ref (ad 63), .ref (ad 68), .ref (ad 69), .int (jI s.tor)])) ∧ (E 1 = .inr (6, [.ref (ad 2), .ref (ad 3), .ref (ad 5), .ref (ad 6), .ref (ad 8), .int (jI x), .int (jI mk), .int (jI ti)])) ∧ (E 2 = .inr (7, [.ref (ad 3), .ref (ad 5), .int (jI k0), .int (jI ka), .int (jI kb), .int (jI kv)])) ∧ (E 3 = .inr (5, [.ref (ad 4), .int (jI s.tl)])) ∧ (E 4 = aI Γ 160 s.tb) ∧ (E 5 = .inr (0, [.int (jI s.b0), .int (jI b1), .int (jI s.b2), .int (jI s.b3), .int (jI s.b4)])) ∧ (E 6 = .inr (3, [.ref (ad 7), .int (jI dm)])) ∧ (E 7 = aI Γ 60 df) ∧ (E 8 = aZ Γ 60 ma) ∧ (E 9 = .inr (1, [.ref (ad 10), .ref (ad 12), .ref (ad 13), .ref (ad 14), .ref (ad 15), .ref (ad 16), .ref (ad 17), .ref (ad 18)])) ∧ (E 10 = .inr (3, [.ref (ad 11), .int (jI s.n)])) ∧ (E 11 = aI Γ 60 s.f) ∧ (E 12 = aI Γ 60 pa) ∧ (E 13 = aI Γ 60 al) ∧ (E 14 = aI Γ 60 hp) ∧ (E 15 = aI Γ 61 de) ∧ (E 16 = aI Γ 61 sl) ∧ (E 17 = aI Γ 60 le) ∧ (E 18 = aZ Γ 60 hi) ∧ (E 19 = .inr (2, [.ref (ad 20), .int (jI s.o), .int (jI s.p), .int (jI s.a)])) ∧ (E 20 = aR Γ 2 21 (fun i => some (ad (21 + 2 * i)))) ∧ (∀ i : Nat, i < 21 → E (21 + 2 * i) = .inr (3, [.ref (ad (22 + 2 * i)), .int (jI (s.hn i))])) ∧ (∀ i : Nat, i < 21 → E (22 + 2 * i) = aI Γ 60 (s.hf i)) ∧ (E 63 = aR Γ 2 2 (fun i => some (ad (64 + 2 * i)))) ∧ (∀ i : Nat, i < 2 → E (64 + 2 * i) = .inr (3, [.ref (ad (65 + 2 * i)), .int (jI (s.im i))])) ∧ (∀ i : Nat, i < 2 → E (65 + 2 * i) = aI Γ 60 (s.imf i)) ∧ (E 68 = aZ Γ 2 s.kp) ∧ (E 69 = aR Γ 3 4 (fun i => some (ad (70 + 2 * i)))) ∧ (∀ i : Nat, i < 4 → E (70 + 2 * i) = .inr (4, [.ref (ad (71 + 2 * i)), .int (jI (s.th i)), .int (jI (s.la i)), .int (jI (s.sn i))])) ∧ (∀ i : Nat, i < 4 → E (71 + 2 * i) = aI Γ 40 (s.sf i)) ∧ (0 ≤ dm ∧ dm ≤ 60) ∧ (mk = 0 ∨ mk = 1) ∧ Q pa al de sl le hi
abbrev KQ : (Int → Int) → (Int → Int) → (Int → Int) → (Int → Int) → (Int → Int) → (Int → Int) → Prop := fun _ _ de sl _ _ => de 0 = 0 ∧ sl 0 = 0
def KI (Γ : JG) (ad : Nat → Nat) (E : Nat → va_E) (s : KS) : Prop := KJ Γ ad E s (SV s.f s.n) ∧ KV s
abbrev KS.ed (s : KS) : KS := s.hist (if s.p < 20 then s.o else (s.o + 1) % 21) (if s.p < 20 then s.p + 1 else s.p) 0 (fun i => if i = (((if s.p < 20 then s.o else (s.o + 1) % 21) + (if s.p < 20 then s.p + 1 else s.p)) % 21).toNat then s.n else s.hn i) (fun i => if i = (((if s.p < 20 then s.o else (s.o + 1) % 21) + (if s.p < 20 then s.p + 1 else s.p)) % 21).toNat then icp s.f (s.hf i) 0 0 s.n else s.hf i)
abbrev KS.anew (s : KS) : KS := s.hist s.o 0 0 (fun i => if i = ((s.o + 0) % 21).toNat then s.n else s.hn i) (fun i => if i = ((s.o + 0) % 21).toNat then icp s.f (s.hf i) 0 0 s.n else s.hf i)
theorem VR_icp {f g : Int → Int} {n : Int} (h : VR f n) : VR (icp f g 0 0 n) n := by
  refine ⟨h.1, fun j a b => ?_⟩
  have e : icp f g 0 0 n j = f j := by show (if _ then _ else _) = _; rw [if_pos (by omega)]; congr 1; omega
  rw [e]; exact h.2 j a b
theorem ed_KV {s : KS} (h : KV0 s) : KV s.ed := by
  refine ⟨⟨h.hv, ?_, fun i hi => ?_, h.hi, h.hkp, h.htb, h.hb, h.hs⟩, ?_, fun j a b => ?_⟩
  · have := h.ho; simp only [HB, KS.ed, KS.anew, KS.hist, KS.o, KS.p, KS.a, KS.hn, KS.hf, KS.n, KS.f] at this ⊢; split <;> omega
  · simp only [HB, KS.ed, KS.anew, KS.hist, KS.o, KS.p, KS.a, KS.hn, KS.hf, KS.n, KS.f]
    repeat' split
    all_goals first | exact VR_icp h.hv | exact h.hh i hi
  · show (if _ then _ else _) = _
    rw [if_pos rfl]
  · show (if _ then icp _ _ _ _ _ else _) j = _
    rw [if_pos rfl]
    show (if _ then _ else _) = _
    have b' : j < s.n := b
    rw [if_pos (show 0 ≤ j ∧ j < 0 + s.n by omega)]; show s.f _ = s.f _; congr 1; omega
theorem anew_KV {s : KS} (h : KV0 s) : KV s.anew := by
  refine ⟨⟨h.hv, ?_, fun i hi => ?_, h.hi, h.hkp, h.htb, h.hb, h.hs⟩, ?_, fun j a b => ?_⟩
  · have := h.ho; simp only [HB, KS.ed, KS.anew, KS.hist, KS.o, KS.p, KS.a, KS.hn, KS.hf, KS.n, KS.f] at this ⊢; omega
  · simp only [HB, KS.ed, KS.anew, KS.hist, KS.o, KS.p, KS.a, KS.hn, KS.hf, KS.n, KS.f]
    repeat' split
    all_goals first | exact VR_icp h.hv | exact h.hh i hi
  · show (if _ then _ else _) = _
    rw [if_pos rfl]
  · show (if _ then icp _ _ _ _ _ else _) j = _
    rw [if_pos rfl]
    show (if _ then _ else _) = _
    have b' : j < s.n := b
    rw [if_pos (show 0 ≤ j ∧ j < 0 + s.n by omega)]; show s.f _ = s.f _; congr 1; omega
