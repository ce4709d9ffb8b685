/-! a text's reading, more laws -/
theorem sc_all {P : Int → Prop} [DecidablePred P] {e : Int} (he : 0 ≤ e) : sc P e 0 = e ↔ ∀ j, 0 ≤ j → j < e → P j := by
  have h := sc_of (P := P) e 0
  constructor
  · intro z j a b
    exact h.2.2.1 j a (by rw [z]; exact b)
  · intro z
    by_cases hq : sc P e 0 = e
    · exact hq
    · exact absurd ⟨by have := h.2.1 he; omega, z _ h.1 (by have := h.2.1 he; omega)⟩ h.2.2.2
theorem okM_all {ma f : Int → Int} {n : Int} : okM ma f n ↔ ∀ j, 0 ≤ j → j < 60 → okP ma f n j := sc_all (by decide)
abbrev RE (r q : RS) : Prop := r.1 = q.1 ∧ r.2.1 = q.2.1 ∧ r.2.2.1 = q.2.2.1 ∧ r.2.2.2.1 = q.2.2.2.1 ∧ r.2.2.2.2.1 = q.2.2.2.2.1 ∧ r.2.2.2.2.2.1 = q.2.2.2.2.2.1 ∧ (∀ j, 0 ≤ j → j < q.2.2.2.2.2.1 → r.2.2.2.2.2.2.1 j = q.2.2.2.2.2.2.1 j) ∧ ∀ j, 0 ≤ j → j < 60 → r.2.2.2.2.2.2.2 j = q.2.2.2.2.2.2.2 j
theorem okM_congr {ma f ma' f' : Int → Int} {n : Int} (hf : ∀ j, 0 ≤ j → j < n → f j = f' j) (hm : ∀ j, 0 ≤ j → j < 60 → ma j = ma' j) : okM ma f n ↔ okM ma' f' n := by
  rw [okM_all, okM_all]
  constructor
  · intro h j a b
    rcases h j a b with z | z
    · left; rw [← hm j a b]; exact z
    · right; exact ⟨z.1, by rw [← hf j a z.1]; exact z.2⟩
  · intro h j a b
    rcases h j a b with z | z
    · left; rw [hm j a b]; exact z
    · right; exact ⟨z.1, by rw [hf j a z.1]; exact z.2⟩
theorem run_congr (tb : Int → Int) (tl : Int) : ∀ (m : Nat) (i x mg ti mg' ti' ln tk n : Int) (f ma f' ma' : Int → Int), (x ≠ 1 → mg = mg' ∧ ti = ti') → (∀ j, 0 ≤ j → j < n → f j = f' j) → (∀ j, 0 ≤ j → j < 60 → ma j = ma' j) → RE (run tb tl m i x mg ti ln tk n f ma) (run tb tl m i x mg' ti' ln tk n f' ma')
  | 0, _, _, _, _, _, _, _, _, _, _, _, _, _, _, hf, hm => ⟨rfl, rfl, rfl, rfl, rfl, rfl, hf, hm⟩
  | m + 1, i, x, mg, ti, mg', ti', ln, tk, n, f, ma, f', ma', hx, hf, hm => by
    by_cases h1 : tkF tb tl (tkA tb tl i) = 0
    · by_cases h2 : tkK tb tl (tkA tb tl i) = 0 ∧ x = 1
      · rw [run_end h1 h2.1 h2.2, run_end h1 h2.1 h2.2]
        refine ⟨?_, rfl, rfl, rfl, rfl, rfl, hf, hm⟩
        show (if okM ma f n then (0 : Int) else 6) = (if okM ma' f' n then 0 else 6)
        by_cases hk : okM ma f n
        · rw [if_pos hk, if_pos ((okM_congr hf hm).1 hk)]
        · rw [if_neg hk, if_neg (fun z => hk ((okM_congr hf hm).2 z))]
      · by_cases h3 : tkK tb tl (tkA tb tl i) = x
        · obtain ⟨a, ha⟩ : ∃ a, a = tkA tb tl i := ⟨_, rfl⟩
          obtain ⟨b, hb⟩ : ∃ b, b = tkB tb tl a := ⟨_, rfl⟩
          obtain ⟨v, hvv⟩ : ∃ v, v = nv tb a b := ⟨_, rfl⟩
          have eF : fT tb a b v x mg ti n = fT tb a b v x mg' ti' n := by
            by_cases e : x = 1
            · unfold fT; rw [if_pos e, if_pos e]
            · rw [(hx e).1, (hx e).2]
          have eX : xT tb a b x mg = xT tb a b x mg' := by
            by_cases e : x = 1
            · unfold xT; rw [if_pos e, if_pos e]
            · rw [(hx e).1]
          have eM : mkT tb a b x mg = mkT tb a b x mg' := by
            by_cases e : x = 1
            · unfold mkT; rw [if_pos e, if_pos e]
            · rw [(hx e).1]
          have eT : tiT v x mg ti = tiT v x mg' ti' := by
            by_cases e : x = 1
            · unfold tiT; rw [if_pos e, if_pos e]
            · rw [(hx e).1, (hx e).2]
          have eN : nT a b x ti n = nT a b x ti' n := by
            by_cases e : x = 1
            · unfold nT; rw [if_neg (by omega), if_neg (by omega)]
            · rw [(hx e).2]
          by_cases h4 : fT tb a b v x mg ti n = 0
          · have h4' := h4
            rw [eF] at h4'
            subst hvv hb ha
            rw [run_go h1 h3 h2 h4, run_go h1 h3 h2 h4', eX, eM, eT, eN]
            refine run_congr tb tl m _ _ _ _ _ _ _ _ _ _ _ _ _ (fun _ => ⟨rfl, rfl⟩) (fun j p q => ?_) (fun j p q => ?_)
            · unfold rwT nT at *
              by_cases e : x = 4
              · rw [if_pos e] at q
                rw [if_pos e, if_pos e]
                obtain rfl : ti = ti' := (hx (by omega)).2
                show (if _ then _ else _) = (if _ then _ else _)
                split
                · rfl
                · exact hf j p (by omega)
              · rw [if_neg e] at q
                rw [if_neg e, if_neg e]
                exact hf j p q
            · unfold maT
              by_cases e : x = 1
              · rw [if_neg (by omega), if_neg (by omega)]; exact hm j p q
              · rw [(hx e).1]
                split
                · show (if _ then _ else _) = (if _ then _ else _)
                  split
                  · rfl
                  · exact hm j p q
                · exact hm j p q
          · have h4' := h4
            rw [eF] at h4'
            subst hvv hb ha
            rw [run_bad h1 h3 h2 h4, run_bad h1 h3 h2 h4', eF]
            exact ⟨rfl, rfl, rfl, rfl, rfl, rfl, hf, hm⟩
        · rw [run_ne h1 h3 h2, run_ne h1 h3 h2]
          exact ⟨rfl, rfl, rfl, rfl, rfl, rfl, hf, hm⟩
    · rw [run_f1 h1, run_f1 h1]
      exact ⟨rfl, rfl, rfl, rfl, rfl, rfl, hf, hm⟩
theorem rwT_sgn {tb : Int → Int} {tl a x ti n : Int} {f : Int → Int} (ha : 0 ≤ a ∧ a ≤ tl) (h1 : tkF tb tl a = 0) (h3 : tkK tb tl a = x) (hn : 0 ≤ n) (hf : ∀ j, 0 ≤ j → j < n → sgn (f j)) : ∀ j, 0 ≤ j → j < nT a (tkB tb tl a) x ti n → sgn (rwT tb a (tkB tb tl a) x ti n f j) := by
  intro j p q
  unfold rwT nT at *
  by_cases e : x = 4
  · rw [if_pos e] at q ⊢
    show sgn (if _ then _ else _)
    split
    · next hj =>
      have hq := tkB_q ha h1 (by omega)
      have eb : tkB tb tl a = tkQ tb tl a + 1 := by unfold tkB; rw [h3, e]; rfl
      have hpos : 0 < tkB tb tl a - a - 2 := by
        by_cases h0 : tkB tb tl a - a - 2 = 0
        · rw [h0, Int.mul_zero] at hj; omega
        · omega
      have m1 := Int.emod_nonneg (j - n) (b := tkB tb tl a - a - 2) (by omega)
      have m2 := Int.emod_lt_of_pos (j - n) (b := tkB tb tl a - a - 2) hpos
      exact (sc_of (P := fun j => sgn (tb j)) tl (a + 1)).2.2.1 _ (by omega) (by show _ < tkQ tb tl a; omega)
    · exact hf j p (by omega)
  · rw [if_neg e] at q ⊢
    exact hf j p q
theorem run_fin (tb : Int → Int) (tl : Int) : ∀ (m : Nat) (i x mg ti ln tk n : Int) (f ma : Int → Int), (0 ≤ i ∧ i ≤ tl) → (0 ≤ n ∧ n ≤ 60) → (1 ≤ x ∧ x ≤ 4) → (x = 4 → 1 ≤ ti ∧ ti ≤ 9) → (∀ j, 0 ≤ j → j < n → sgn (f j)) → (0 ≤ (run tb tl m i x mg ti ln tk n f ma).1 ∧ (run tb tl m i x mg ti ln tk n f ma).1 ≤ 6) ∧ ((run tb tl m i x mg ti ln tk n f ma).1 = 0 → (0 ≤ (run tb tl m i x mg ti ln tk n f ma).2.2.2.2.2.1 ∧ (run tb tl m i x mg ti ln tk n f ma).2.2.2.2.2.1 ≤ 60) ∧ (∀ j, 0 ≤ j → j < (run tb tl m i x mg ti ln tk n f ma).2.2.2.2.2.1 → sgn ((run tb tl m i x mg ti ln tk n f ma).2.2.2.2.2.2.1 j)) ∧ okM (run tb tl m i x mg ti ln tk n f ma).2.2.2.2.2.2.2 (run tb tl m i x mg ti ln tk n f ma).2.2.2.2.2.2.1 (run tb tl m i x mg ti ln tk n f ma).2.2.2.2.2.1)
  | 0, _, _, _, _, _, _, _, _, _, _, _, _, _, _ => ⟨(by decide : (0 : Int) ≤ 2 ∧ (2 : Int) ≤ 6), fun z => absurd (show (2 : Int) = 0 from z) (by decide)⟩
  | m + 1, i, x, mg, ti, ln, tk, n, f, ma, hi, hn, hx, ht, hf => by
    have hab := tkA_bd (tb := tb) hi
    by_cases h1 : tkF tb tl (tkA tb tl i) = 0
    · by_cases h2 : tkK tb tl (tkA tb tl i) = 0 ∧ x = 1
      · rw [run_end h1 h2.1 h2.2]
        by_cases hk : okM ma f n
        · rw [if_pos hk]; exact ⟨(by decide : (0 : Int) ≤ 0 ∧ (0 : Int) ≤ 6), fun _ => ⟨hn, hf, hk⟩⟩
        · rw [if_neg hk]; exact ⟨(by decide : (0 : Int) ≤ 6 ∧ (6 : Int) ≤ 6), fun z => absurd (show (6 : Int) = 0 from z) (by decide)⟩
      · by_cases h3 : tkK tb tl (tkA tb tl i) = x
        · by_cases h4 : fT tb (tkA tb tl i) (tkB tb tl (tkA tb tl i)) (nv tb (tkA tb tl i) (tkB tb tl (tkA tb tl i))) x mg ti n = 0
          · rw [run_go h1 h3 h2 h4]
            have hb := tkB_bd (tb := tb) (tl := tl) (a := tkA tb tl i) (by omega) h1 (by omega)
            refine run_fin tb tl m _ _ _ _ _ _ _ _ _ (by omega) (nT_ok hn (fun z => ?_) h4) (xT_bd _ _ _ _ _) (fun z => te_ok hx h4 z) (rwT_sgn (by omega) h1 h3 hn.1 hf)
            have hq := tkB_q (tb := tb) (tl := tl) (a := tkA tb tl i) (by omega) h1 (by omega)
            have := ht z
            omega
          · rw [run_bad h1 h3 h2 h4]
            have := fT_bd tb (tkA tb tl i) (tkB tb tl (tkA tb tl i)) (nv tb (tkA tb tl i) (tkB tb tl (tkA tb tl i))) x mg ti n
            exact ⟨⟨this.1, by show fT _ _ _ _ _ _ _ _ ≤ 6; omega⟩, fun z => absurd z h4⟩
        · rw [run_ne h1 h3 h2]
          exact ⟨(by decide : (0 : Int) ≤ 2 ∧ (2 : Int) ≤ 6), fun z => absurd (show (2 : Int) = 0 from z) (by decide)⟩
    · rw [run_f1 h1]
      have := tkF_bd tb tl (tkA tb tl i)
      exact ⟨⟨this.1, by show tkF _ _ _ ≤ 6; omega⟩, fun z => absurd z h1⟩
abbrev R0 (tb : Int → Int) (tl : Int) : RS := run tb tl 161 0 1 0 0 0 0 0 (fun _ => 0) (fun _ => 0)
theorem VR_mkF {ma f : Int → Int} {n : Int} (hn : 0 ≤ n ∧ n ≤ 60) (hf : ∀ j, 0 ≤ j → j < n → sgn (f j)) (hk : okM ma f n) : VR (mkF ma f) n := by
  refine ⟨hn, fun j a b => ?_⟩
  have hg := gd_sgn (hf j a b)
  show gd (if _ then _ else _)
  split
  · next h =>
    have ho : opn (f j % 128) := by
      rcases okM_all.1 hk j a (by omega) with z | z
      · exact absurd z h.2.2
      · exact z.2
    have := gd_mark (x := 1) hg ho (Or.inr rfl)
    exact this
  · exact hg
abbrev KS.told (s : KS) : KS := (((s.tape 0 s.tb).blame (R0 s.tb s.tl).1 (R0 s.tb s.tl).2.2.1 (R0 s.tb s.tl).2.2.2.1 (R0 s.tb s.tl).2.2.2.2.1).imgs (fun j => if 0 ≤ j ∧ j < 2 then 0 else s.kp j) s.im s.imf).row (R0 s.tb s.tl).2.2.2.2.2.1 (icp (mkF (R0 s.tb s.tl).2.2.2.2.2.2.2 (R0 s.tb s.tl).2.2.2.2.2.2.1) s.f 0 0 (R0 s.tb s.tl).2.2.2.2.2.1)
def qText (s : KS) : Int × KS := if (R0 s.tb s.tl).1 ≠ 0 then (-10 - (R0 s.tb s.tl).2.1, (s.tape 0 s.tb).blame (R0 s.tb s.tl).1 (R0 s.tb s.tl).2.2.1 (R0 s.tb s.tl).2.2.2.1 (R0 s.tb s.tl).2.2.2.2.1) else ((R0 s.tb s.tl).2.2.2.2.2.1, s.told.anew)
theorem R0_fin {tb : Int → Int} {tl : Int} (h : TB tl tb) : (0 ≤ (R0 tb tl).1 ∧ (R0 tb tl).1 ≤ 6) ∧ ((R0 tb tl).1 = 0 → VR (mkF (R0 tb tl).2.2.2.2.2.2.2 (R0 tb tl).2.2.2.2.2.2.1) (R0 tb tl).2.2.2.2.2.1) := by
  have hh := run_fin tb tl 161 0 1 0 0 0 0 0 (fun _ => 0) (fun _ => 0) (by have := h.1; omega) (by omega) (by omega) (by omega) (fun j a b => by omega)
  exact ⟨hh.1, fun z => VR_mkF (hh.2 z).1 (hh.2 z).2.1 (hh.2 z).2.2⟩
theorem kv_fail {s : KS} (h : KV s) {b0 b2 b3 b4 : Int} (hb : 0 ≤ b0 ∧ b0 ≤ 6) : KV ((s.tape 0 s.tb).blame b0 b2 b3 b4) := ⟨⟨h.1.hv, h.1.ho, h.1.hh, h.1.hi, h.1.hkp, ⟨by show (0 : Int) ≤ 0 ∧ (0 : Int) ≤ 160; omega, fun j a b => by have b' : j < 0 := b; omega⟩, hb, h.1.hs⟩, h.2⟩
theorem kv_told {s : KS} (h : KV0 s) (h0 : (R0 s.tb s.tl).1 = 0) : KV0 s.told := by
  have hr := R0_fin h.htb
  refine ⟨VR_icp (hr.2 h0), h.ho, h.hh, h.hi, fun j a b => Or.inl ?_, ⟨by show (0 : Int) ≤ 0 ∧ (0 : Int) ≤ 160; omega, fun j a b => by have b' : j < 0 := b; omega⟩, hr.1, h.hs⟩
  show (if _ then _ else _) = (0 : Int)
  rw [if_pos ⟨a, b⟩]
