/-! the law's own steps -/
abbrev ys (xs : Nat → Int32) (z : Int) : Int := (xs z.toNat).toInt
theorem J_sld {l : Launch} {Γ : JG} {Ω : JO} {nL : Nat} {ad : Nat → Nat} {N k n : Nat} {E : Nat → va_E} {pc q : Nat} {L : List (Option Value)} {st : List Value} {own : String} {cc : ByteArray} {fr rc rs lo : Nat} (X : JX Γ Ω own cc nL fr rc rs lo) {b Ln : Nat} {xs : Nat → Int32} {z : Int} (hX : va_X b Ln xs Ω.2.2.2.1 Ω.2.2.2.1.heap) (hbl : b < Ω.2.2.2.1.heap.size) (hbA : ¬ jA Γ b) (hd : decode cc pc = .ok (.iaload, 1)) (hz : 0 ≤ z ∧ z < (Ln : Int)) (hL : (Ln : Int) < 2147483648) (hq : pc + 1 = q) (kk : J l Γ Ω nL ad N k n E q L (.int (jI (ys xs z)) :: st)) : J l Γ Ω nL ad N k n E pc L (.int (jI z) :: .ref b :: st) := by
  subst hq
  intro H locs ls hl hw hS
  refine va_sld X.1 X.2.1 hX hbl hbA hS (jI_in hz hL) hd ?_
  rw [jI_clamp (by omega), jI_of (xs z.toNat)]
  exact kk H locs ls hl hw hS
theorem J_slen0 {l : Launch} {Γ : JG} {Ω : JO} {nL : Nat} {ad : Nat → Nat} {N k n : Nat} {E : Nat → va_E} {pc q : Nat} {L : List (Option Value)} {st : List Value} {own : String} {cc : ByteArray} {fr rc rs lo : Nat} (X : JX Γ Ω own cc nL fr rc rs lo) {b Ln : Nat} {xs : Nat → Int32} (hX : va_X b Ln xs Ω.2.2.2.1 Ω.2.2.2.1.heap) (hbl : b < Ω.2.2.2.1.heap.size) (hbA : ¬ jA Γ b) (hd : decode cc pc = .ok (.arraylength, 1)) (hq : pc + 1 = q) (kk : J l Γ Ω nL ad N k n E q L (.int (jI (Ln : Int)) :: st)) : J l Γ Ω nL ad N k n E pc L (.ref b :: st) := by
  subst hq
  intro H locs ls hl hw hS
  refine va_slen X.1 X.2.1 hX hbl hbA hS hd ?_
  rw [jI_nat]
  exact kk H locs ls hl hw hS
theorem J_icmp_same {l : Launch} {Γ : JG} {Ω : JO} {nL : Nat} {ad : Nat → Nat} {N k n : Nat} {E : Nat → va_E} {pc : Nat} {L : List (Option Value)} {st : List Value} {own : String} {cc : ByteArray} {fr rc rs lo : Nat} (X : JX Γ Ω own cc nL fr rc rs lo) {v : Int32} {off : Int} {tgt : Nat} (hd : decode cc pc = .ok (.if_icmp .eq off, 3)) (ht : (pc : Int) + off = (tgt : Int)) (kk : J l Γ Ω nL ad N k n E tgt L st) : J l Γ Ω nL ad N k n E pc L (.int v :: .int v :: st) :=
  fun H locs ls hl hw hS => lv_icmp_eq X.1 X.2.1 hd ht (fun _ => kk H locs ls hl hw hS) (fun h => absurd rfl h)
theorem KI_fr {Γ : JG} {ad : Nat → Nat} {E E' : Nat → va_E} {s : KS} (h : KI Γ ad E s) (hf : ∀ j : Nat, j < 78 → E' j = E j) : KI Γ ad E' s := by
  obtain ⟨⟨x, mk, ti, k0, ka, kb, kv, dm, b1, df, ma, pa, al, hp, de, sl, le, hh, h0, h1, h2, h3, h4, h5, h6, h7, h8, h9, h10, h11, h12, h13, h14, h15, h16, h17, h18, h19, h20, hg21, hg22, h63, hg64, hg65, h68, h69, hg70, hg71, hdm, hmk, hq⟩, hv⟩ := h
  exact ⟨⟨x, mk, ti, k0, ka, kb, kv, dm, b1, df, ma, pa, al, hp, de, sl, le, hh, (hf 0 (by decide)).trans h0, (hf 1 (by decide)).trans h1, (hf 2 (by decide)).trans h2, (hf 3 (by decide)).trans h3, (hf 4 (by decide)).trans h4, (hf 5 (by decide)).trans h5, (hf 6 (by decide)).trans h6, (hf 7 (by decide)).trans h7, (hf 8 (by decide)).trans h8, (hf 9 (by decide)).trans h9, (hf 10 (by decide)).trans h10, (hf 11 (by decide)).trans h11, (hf 12 (by decide)).trans h12, (hf 13 (by decide)).trans h13, (hf 14 (by decide)).trans h14, (hf 15 (by decide)).trans h15, (hf 16 (by decide)).trans h16, (hf 17 (by decide)).trans h17, (hf 18 (by decide)).trans h18, (hf 19 (by decide)).trans h19, (hf 20 (by decide)).trans h20, fun i hi => (hf _ (by omega)).trans (hg21 i hi), fun i hi => (hf _ (by omega)).trans (hg22 i hi), (hf 63 (by decide)).trans h63, fun i hi => (hf _ (by omega)).trans (hg64 i hi), fun i hi => (hf _ (by omega)).trans (hg65 i hi), (hf 68 (by decide)).trans h68, (hf 69 (by decide)).trans h69, fun i hi => (hf _ (by omega)).trans (hg70 i hi), fun i hi => (hf _ (by omega)).trans (hg71 i hi), hdm, hmk, hq⟩, hv⟩
theorem KI_0 {Γ : JG} {ad : Nat → Nat} {E : Nat → va_E} {s : KS} (h : KI Γ ad E s) : ∃ fs : List Value, E 0 = .inr (8, fs) := by
  obtain ⟨⟨x, mk, ti, k0, ka, kb, kv, dm, b1, df, ma, pa, al, hp, de, sl, le, hh, h0, -⟩, -⟩ := h
  exact ⟨_, h0⟩
theorem MI_fr {Γ : JG} {ad : Nat → Nat} {E E' : Nat → va_E} {s : KS} (h : MI Γ ad E s) (hf : ∀ j : Nat, 78 ≤ j → E' j = E j) : MI Γ ad E' s := by
  obtain ⟨m2, m3, m4, m5, m6, m7, m8, m9, m10, m11, g, rs, ma, pa, al, he, un, re, ot, ln, lg, ce, h78, h79, h80, h81, h82, h83, h84, h85, h86, h87, h88, h89, h90, h91, h92, h93, h94, hr⟩ := h
  exact ⟨m2, m3, m4, m5, m6, m7, m8, m9, m10, m11, g, rs, ma, pa, al, he, un, re, ot, ln, lg, ce, (hf 78 (by decide)).trans h78, (hf 79 (by decide)).trans h79, (hf 80 (by decide)).trans h80, (hf 81 (by decide)).trans h81, (hf 82 (by decide)).trans h82, (hf 83 (by decide)).trans h83, (hf 84 (by decide)).trans h84, (hf 85 (by decide)).trans h85, (hf 86 (by decide)).trans h86, (hf 87 (by decide)).trans h87, (hf 88 (by decide)).trans h88, (hf 89 (by decide)).trans h89, (hf 90 (by decide)).trans h90, (hf 91 (by decide)).trans h91, (hf 92 (by decide)).trans h92, (hf 93 (by decide)).trans h93, (hf 94 (by decide)).trans h94, hr⟩
theorem MI_78 {Γ : JG} {ad : Nat → Nat} {E : Nat → va_E} {s : KS} (h : MI Γ ad E s) : ∃ fs : List Value, E 78 = .inr (9, fs) := by
  obtain ⟨m2, m3, m4, m5, m6, m7, m8, m9, m10, m11, g, rs, ma, pa, al, he, un, re, ot, ln, lg, ce, h78, -⟩ := h
  exact ⟨_, h78⟩
