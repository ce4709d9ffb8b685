/-! the plain one finds partners -/
theorem nrm_step {kd : Int} {f g0 gg : Int → Int} {i w : Int} (hw : w = if isK (f i % 128) kd then -4 else g0k kd g0 i) (j : Int) : nrm kd f g0 (i + 1) (iu gg i w) j = nrm kd f g0 i gg j := by
  by_cases e : j = i
  · subst e
    show (if j < j + 1 then (if j = j then w else gg j) else _) = (if j < j then _ else (if isK (f j % 128) kd then -4 else g0k kd g0 j))
    rw [if_pos (by omega), if_pos rfl, if_neg (by omega)]; exact hw
  · show (if j < i + 1 then (if j = i then w else gg j) else _) = (if j < i then gg j else _)
    rw [if_neg e]
    by_cases h : j < i
    · rw [if_pos (by omega), if_pos h]
    · rw [if_neg (by omega), if_neg h]
theorem nrm_pop {kd : Int} {f g0 gg : Int → Int} {i w t : Int} (ht : t < i) (j : Int) : nrm kd f g0 (i + 1) (iu (iu (iu gg i w) i t) t i) j = iu (iu (nrm kd f g0 i gg) i t) t i j := by
  show (if j < i + 1 then (if j = t then i else if j = i then t else if j = i then w else gg j) else _) = (if j = t then i else if j = i then t else (if j < i then gg j else _))
  by_cases e1 : j = t
  · rw [if_pos (by omega), if_pos e1, if_pos e1]
  · by_cases e2 : j = i
    · rw [if_pos (by omega), if_neg e1, if_pos e2, if_neg e1, if_pos e2]
    · rw [if_neg e1, if_neg e2, if_neg e2, if_neg e1, if_neg e2]
      by_cases h : j < i
      · rw [if_pos (by omega), if_pos h]
      · rw [if_neg (by omega), if_neg h]
set_option maxRecDepth 100000 in
set_option maxHeartbeats 4000000 in
theorem c_X10_finds {l : Launch} {Γ : JG} {ad : Nat → Nat} {E : Nat → va_E} {m0 m1 m2 m3 m4 m5 m6 m7 m8 m9 m10 m11 m12 m13 m14 : Int} {g he : Int → Int} {n kd : Int} {f g0 : Int → Int} {q : Nat} (hM : E 78 = .inr (9, [.ref (ad 79), .ref (ad 80), .int (jI m0), .int (jI m1), .int (jI m2), .int (jI m3), .int (jI m4), .int (jI m5), .int (jI m6), .int (jI m7), .int (jI m8), .int (jI m9), .int (jI m10), .int (jI m11), .ref (ad 81), .ref (ad 82), .ref (ad 83), .ref (ad 84), .ref (ad 85), .ref (ad 86), .ref (ad 87), .ref (ad 88), .ref (ad 89), .int (jI m12), .int (jI m13), .ref (ad 90), .ref (ad 91), .ref (ad 92), .ref (ad 93), .ref (ad 94), .int (jI m14)])) (hS : E 79 = aI Γ 305 g) (hHe : E 87 = aI Γ 60 he) (hI : E q = aI Γ 60 g0) (hg : MS g n f) (hv : VR f n) (hq : q = 85 ∨ q = 86) (hkd : 0 ≤ kd ∧ kd ≤ 3) : JM l Γ yX10_finds cX10_finds 7 none 1 21 0 0 ad 95 E [.ref (ad 78), .int (jI kd), .ref (ad q)] (pV (fun E' => ∃ h' g' : Int → Int, E' 87 = aI Γ 60 h' ∧ E' q = aI Γ 60 g' ∧ (∀ j, 0 ≤ j → j < n → g' j = if isK (f j % 128) kd then prt kd f n j else g0k kd g0 j) ∧ ∀ j : Nat, j ≠ 87 ∧ j ≠ q → E' j = E j)) := by
  refine JM_intro (own := RX10) [some (.ref (ad 78)), some (.int (jI kd)), some (.ref (ad q)), none, none, none, none] rfl rfl rfl (Nat.le_of_ble_eq_true rfl) ?_
  intro Ω X R hin
  obtain ⟨E0, hE0⟩ : ∃ E0 : Nat → va_E, E0 = E := ⟨_, rfl⟩
  have hF : ∀ j : Nat, j ≠ 87 ∧ j ≠ q → E j = E0 j := fun _ _ => by rw [hE0]
  obtain ⟨hgn, hgf⟩ := id hg
  obtain ⟨hn, hvr⟩ := id hv
  refine J_iconst (q := 1) X dX10_finds_0 rfl ?_
  refine J_istore_n (q := 2) X dX10_finds_1 (by decide) rfl rfl ?_
  refine J_iconst (q := 3) X dX10_finds_2 rfl ?_
  refine J_istore (q := 5) X dX10_finds_3 (by decide) rfl rfl ?_
  have lp5 : ∀ (m : Nat) (i top : Int) (h gg : Int → Int) (E : Nat → va_E) (hi : 0 ≤ i ∧ i ≤ n) (hpr : PR kd f n (g0k kd g0) i top h (nrm kd f g0 i gg)) (hge : ∀ j, i ≤ j → gg j = g0 j) (hM : E 78 = .inr (9, [.ref (ad 79), .ref (ad 80), .int (jI m0), .int (jI m1), .int (jI m2), .int (jI m3), .int (jI m4), .int (jI m5), .int (jI m6), .int (jI m7), .int (jI m8), .int (jI m9), .int (jI m10), .int (jI m11), .ref (ad 81), .ref (ad 82), .ref (ad 83), .ref (ad 84), .ref (ad 85), .ref (ad 86), .ref (ad 87), .ref (ad 88), .ref (ad 89), .int (jI m12), .int (jI m13), .ref (ad 90), .ref (ad 91), .ref (ad 92), .ref (ad 93), .ref (ad 94), .int (jI m14)])) (hS : E 79 = aI Γ 305 g) (hHe : E 87 = aI Γ 60 h) (hI : E q = aI Γ 60 (gg)) (hF : ∀ j : Nat, j ≠ 87 ∧ j ≠ q → E j = E0 j) (hm : n - i + 1 ≤ (m : Int)), J l Γ Ω 7 ad 95 0 0 E 5 [some (.ref (ad 78)), some (.int (jI kd)), some (.ref (ad q)), some (.int (jI top)), some (.int (jI i)), none, none] [] := by
    intro m
    induction m with
    | zero => intro i top h gg E hi hpr hge hM hS hHe hI hF hm; exfalso; omega
    | succ m ih5 =>
      intro i top h gg E hi hpr hge hM hS hHe hI hF hm
      have htop := PR_top hpr hi.1
      have hkb := knd_brk (f i % 128)
      have hkd2 := knd_bd (f i % 128)
      refine J_iload (q := 7) X dX10_finds_5 rfl rfl ?_
      refine J_aload_n (q := 8) X dX10_finds_7 rfl rfl ?_
      refine J_callP (q := 11) (jrV X mX10_165 dX10_finds_8 (c_X10_many hM hS hg hv) hM (by omega) rfl rfl rfl rfl (Nat.le_of_ble_eq_true rfl) (by decide)) rfl ?_
      refine J_icmp_ge (q := 14) (tgt := 145) X dX10_finds_11 (by decide) rfl (by omega) (by omega) (fun cq11 => ?_) (fun cq11 => ?_)
      · refine J_vret X R dX10_finds_145 ?_
        rw [hE0] at hF
        obtain rfl : i = n := by omega
        refine ⟨rfl, h, gg, hHe, hI, fun j a b => ?_, hF⟩
        rw [← hpr.2.2 j a b]
        show _ = (if _ then _ else _)
        rw [if_pos b]
      · refine J_aload_n (q := 15) X dX10_finds_14 rfl rfl ?_
        refine J_iload (q := 17) X dX10_finds_15 rfl rfl ?_
        refine J_callP (q := 20) (jrV X mX10_170 dX10_finds_17 (c_X10_signAt hM hS hg hv (by omega)) hM (by omega) rfl rfl rfl rfl (Nat.le_of_ble_eq_true rfl) (by decide)) rfl ?_
        refine J_istore (q := 22) X dX10_finds_20 (by decide) rfl rfl ?_
        have jn51 : ∀ (is : Int) (his : is = bI (isK (f i % 128) kd)), J l Γ Ω 7 ad 95 0 0 E 51 [some (.ref (ad 78)), some (.int (jI kd)), some (.ref (ad q)), some (.int (jI top)), some (.int (jI i)), some (.int (jI (f i % 128))), none] [.int (jI is)] := by
          intro is his
          have hisb := bI_bd (isK (f i % 128) kd)
          refine J_istore (q := 53) X dX10_finds_51 (by decide) rfl rfl ?_
          have jn80 : ∀ (w : Int) (E : Nat → va_E) (hw : w = if isK (f i % 128) kd then -4 else g0k kd g0 i) (hM : E 78 = .inr (9, [.ref (ad 79), .ref (ad 80), .int (jI m0), .int (jI m1), .int (jI m2), .int (jI m3), .int (jI m4), .int (jI m5), .int (jI m6), .int (jI m7), .int (jI m8), .int (jI m9), .int (jI m10), .int (jI m11), .ref (ad 81), .ref (ad 82), .ref (ad 83), .ref (ad 84), .ref (ad 85), .ref (ad 86), .ref (ad 87), .ref (ad 88), .ref (ad 89), .int (jI m12), .int (jI m13), .ref (ad 90), .ref (ad 91), .ref (ad 92), .ref (ad 93), .ref (ad 94), .int (jI m14)])) (hS : E 79 = aI Γ 305 g) (hHe : E 87 = aI Γ 60 h) (hI : E q = aI Γ 60 (iu gg i w)) (hF : ∀ j : Nat, j ≠ 87 ∧ j ≠ q → E j = E0 j), J l Γ Ω 7 ad 95 0 0 E 80 [some (.ref (ad 78)), some (.int (jI kd)), some (.ref (ad q)), some (.int (jI top)), some (.int (jI i)), some (.int (jI (f i % 128))), some (.int (jI is))] [] := by
            intro w E hw hM hS hHe hI hF
            refine J_iload (q := 82) X dX10_finds_80 rfl rfl ?_
            refine J_if_eq (q := 85) (tgt := 107) X dX10_finds_82 (by decide) rfl (by omega) (fun cq82 => ?_) (fun cq82 => ?_)
            · refine J_iload (q := 109) X dX10_finds_107 rfl rfl ?_
              refine J_if_eq (q := 112) (tgt := 139) X dX10_finds_109 (by decide) rfl (by omega) (fun cq109 => ?_) (fun cq109 => ?_)
              · refine J_iinc (q := 142) X dX10_finds_139 rfl (by decide) rfl rfl ?_
                refine J_goto (q := 5) X dX10_finds_142 (by decide) ?_
                refine J_kill 5 ?_
                refine J_kill 6 ?_
                by_cases hq : isK (f i % 128) kd
                · rw [bI_t hq] at his
                  first
                    | (exfalso; omega)
                    | exact ih5 _ _ _ _ _ (by omega) (PR_ext (PR_push hpr hi.1 hq cq90) (fun j _ _ => nrm_step hw j)) (fun j a => by simp only [iu]; rw [if_neg (by omega)]; exact hge j (by omega)) hM hS hHe hI hF (by omega)
                    | exact ih5 _ _ _ _ _ (by omega) (PR_ext (PR_none hpr hi.1 hq cq90 (by omega)) (fun j _ _ => nrm_step hw j)) (fun j a => by simp only [iu]; rw [if_neg (by omega)]; exact hge j (by omega)) hM hS hHe hI hF (by omega)
                    | exact ih5 _ _ _ _ _ (by omega) (PR_ext (PR_pop hpr hi.1 hq cq90 (by omega)) (fun j _ _ => nrm_pop (by omega) j)) (fun j a => by simp only [iu]; rw [if_neg (by omega), if_neg (by omega), if_neg (by omega)]; exact hge j (by omega)) hM hS hHe hI hF (by omega)
                · rw [bI_f hq] at his
                  first
                    | (exfalso; omega)
                    | exact ih5 _ _ _ _ _ (by omega) (PR_ext (PR_skip hpr hi.1 hq) (fun j _ _ => nrm_step hw j)) (fun j a => by simp only [iu]; rw [if_neg (by omega)]; exact hge j (by omega)) hM hS hHe hI hF (by omega)
              · refine J_iload_n (q := 113) X dX10_finds_112 rfl rfl ?_
                refine J_if_le (q := 116) (tgt := 139) X dX10_finds_113 (by decide) rfl (by omega) (fun cq113 => ?_) (fun cq113 => ?_)
                · refine J_iinc (q := 142) X dX10_finds_139 rfl (by decide) rfl rfl ?_
                  refine J_goto (q := 5) X dX10_finds_142 (by decide) ?_
                  refine J_kill 5 ?_
                  refine J_kill 6 ?_
                  by_cases hq : isK (f i % 128) kd
                  · rw [bI_t hq] at his
                    first
                      | (exfalso; omega)
                      | exact ih5 _ _ _ _ _ (by omega) (PR_ext (PR_push hpr hi.1 hq cq90) (fun j _ _ => nrm_step hw j)) (fun j a => by simp only [iu]; rw [if_neg (by omega)]; exact hge j (by omega)) hM hS hHe hI hF (by omega)
                      | exact ih5 _ _ _ _ _ (by omega) (PR_ext (PR_none hpr hi.1 hq cq90 (by omega)) (fun j _ _ => nrm_step hw j)) (fun j a => by simp only [iu]; rw [if_neg (by omega)]; exact hge j (by omega)) hM hS hHe hI hF (by omega)
                      | exact ih5 _ _ _ _ _ (by omega) (PR_ext (PR_pop hpr hi.1 hq cq90 (by omega)) (fun j _ _ => nrm_pop (by omega) j)) (fun j a => by simp only [iu]; rw [if_neg (by omega), if_neg (by omega), if_neg (by omega)]; exact hge j (by omega)) hM hS hHe hI hF (by omega)
                  · rw [bI_f hq] at his
                    first
                      | (exfalso; omega)
                      | exact ih5 _ _ _ _ _ (by omega) (PR_ext (PR_skip hpr hi.1 hq) (fun j _ _ => nrm_step hw j)) (fun j a => by simp only [iu]; rw [if_neg (by omega)]; exact hge j (by omega)) hM hS hHe hI hF (by omega)
                · have hh := PR_hp hpr hi.1 (by omega)
                  refine J_iinc (q := 119) X dX10_finds_116 rfl (by decide) rfl rfl ?_
                  refine J_aload_n (q := 120) X dX10_finds_119 rfl rfl ?_
                  refine J_iload (q := 122) X dX10_finds_120 rfl rfl ?_
                  refine J_aload_n (q := 123) X dX10_finds_122 rfl rfl ?_
                  refine J_get (q := 126) X dX10_finds_123 fX10_34 hM (by omega) rfl rfl ?_
                  refine J_iload_n (q := 127) X dX10_finds_126 rfl rfl ?_
                  refine J_iald (q := 128) X dX10_finds_127 hHe (by omega) (by omega) (by decide) rfl ?_
                  refine J_iast (q := 129) X dX10_finds_128 hI (by omega) (by omega) (by decide) rfl (fun Ew128 hkq128 hsq128 => ?_)
                  replace hI := hkq128
                  replace hM := (hsq128 78 (by omega)).trans hM
                  replace hS := (hsq128 79 (by omega)).trans hS
                  replace hHe := (hsq128 87 (by omega)).trans hHe
                  replace hF : ∀ j : Nat, j ≠ 87 ∧ j ≠ q → Ew128 j = E0 j := fun j hj => (hsq128 j (by omega)).trans (hF j hj)
                  refine J_aload_n (q := 130) X dX10_finds_129 rfl rfl ?_
                  refine J_aload_n (q := 131) X dX10_finds_130 rfl rfl ?_
                  refine J_get (q := 134) X dX10_finds_131 fX10_34 hM (by omega) rfl rfl ?_
                  refine J_iload_n (q := 135) X dX10_finds_134 rfl rfl ?_
                  refine J_iald (q := 136) X dX10_finds_135 hHe (by omega) (by omega) (by decide) rfl ?_
                  refine J_iload (q := 138) X dX10_finds_136 rfl rfl ?_
                  refine J_iast (q := 139) X dX10_finds_138 hI (by omega) (by rw [show top + -1 = top - 1 by omega]; omega) (by decide) rfl (fun Ew138 hkq138 hsq138 => ?_)
                  replace hI := hkq138
                  replace hM := (hsq138 78 (by omega)).trans hM
                  replace hS := (hsq138 79 (by omega)).trans hS
                  replace hHe := (hsq138 87 (by omega)).trans hHe
                  replace hF : ∀ j : Nat, j ≠ 87 ∧ j ≠ q → Ew138 j = E0 j := fun j hj => (hsq138 j (by omega)).trans (hF j hj)
                  refine J_iinc (q := 142) X dX10_finds_139 rfl (by decide) rfl rfl ?_
                  refine J_goto (q := 5) X dX10_finds_142 (by decide) ?_
                  refine J_kill 5 ?_
                  refine J_kill 6 ?_
                  by_cases hq : isK (f i % 128) kd
                  · rw [bI_t hq] at his
                    first
                      | (exfalso; omega)
                      | exact ih5 _ _ _ _ _ (by omega) (PR_ext (PR_push hpr hi.1 hq cq90) (fun j _ _ => nrm_step hw j)) (fun j a => by simp only [iu]; rw [if_neg (by omega)]; exact hge j (by omega)) hM hS hHe hI hF (by omega)
                      | exact ih5 _ _ _ _ _ (by omega) (PR_ext (PR_none hpr hi.1 hq cq90 (by omega)) (fun j _ _ => nrm_step hw j)) (fun j a => by simp only [iu]; rw [if_neg (by omega)]; exact hge j (by omega)) hM hS hHe hI hF (by omega)
                      | exact ih5 _ _ _ _ _ (by omega) (PR_ext (PR_pop hpr hi.1 hq cq90 (by omega)) (fun j _ _ => nrm_pop (by omega) j)) (fun j a => by simp only [iu]; rw [if_neg (by omega), if_neg (by omega), if_neg (by omega)]; exact hge j (by omega)) hM hS hHe hI hF (by omega)
                  · rw [bI_f hq] at his
                    first
                      | (exfalso; omega)
                      | exact ih5 _ _ _ _ _ (by omega) (PR_ext (PR_skip hpr hi.1 hq) (fun j _ _ => nrm_step hw j)) (fun j a => by simp only [iu]; rw [if_neg (by omega)]; exact hge j (by omega)) hM hS hHe hI hF (by omega)
            · refine J_iload (q := 87) X dX10_finds_85 rfl rfl ?_
              refine J_callP (q := 90) (jrS X mX10_142 dX10_finds_87 (c_X10_isOpen (by omega)) rfl rfl (Nat.le_of_ble_eq_true rfl) (by decide)) rfl ?_
              refine J_if_eqB (q := 93) (tgt := 107) X dX10_finds_90 (by decide) rfl (fun cq90 => ?_) (fun cq90 => ?_)
              · refine J_iload (q := 109) X dX10_finds_107 rfl rfl ?_
                refine J_if_eq (q := 112) (tgt := 139) X dX10_finds_109 (by decide) rfl (by omega) (fun cq109 => ?_) (fun cq109 => ?_)
                · refine J_iinc (q := 142) X dX10_finds_139 rfl (by decide) rfl rfl ?_
                  refine J_goto (q := 5) X dX10_finds_142 (by decide) ?_
                  refine J_kill 5 ?_
                  refine J_kill 6 ?_
                  by_cases hq : isK (f i % 128) kd
                  · rw [bI_t hq] at his
                    first
                      | (exfalso; omega)
                      | exact ih5 _ _ _ _ _ (by omega) (PR_ext (PR_push hpr hi.1 hq cq90) (fun j _ _ => nrm_step hw j)) (fun j a => by simp only [iu]; rw [if_neg (by omega)]; exact hge j (by omega)) hM hS hHe hI hF (by omega)
                      | exact ih5 _ _ _ _ _ (by omega) (PR_ext (PR_none hpr hi.1 hq cq90 (by omega)) (fun j _ _ => nrm_step hw j)) (fun j a => by simp only [iu]; rw [if_neg (by omega)]; exact hge j (by omega)) hM hS hHe hI hF (by omega)
                      | exact ih5 _ _ _ _ _ (by omega) (PR_ext (PR_pop hpr hi.1 hq cq90 (by omega)) (fun j _ _ => nrm_pop (by omega) j)) (fun j a => by simp only [iu]; rw [if_neg (by omega), if_neg (by omega), if_neg (by omega)]; exact hge j (by omega)) hM hS hHe hI hF (by omega)
                  · rw [bI_f hq] at his
                    first
                      | (exfalso; omega)
                      | exact ih5 _ _ _ _ _ (by omega) (PR_ext (PR_skip hpr hi.1 hq) (fun j _ _ => nrm_step hw j)) (fun j a => by simp only [iu]; rw [if_neg (by omega)]; exact hge j (by omega)) hM hS hHe hI hF (by omega)
                · refine J_iload_n (q := 113) X dX10_finds_112 rfl rfl ?_
                  refine J_if_le (q := 116) (tgt := 139) X dX10_finds_113 (by decide) rfl (by omega) (fun cq113 => ?_) (fun cq113 => ?_)
                  · refine J_iinc (q := 142) X dX10_finds_139 rfl (by decide) rfl rfl ?_
                    refine J_goto (q := 5) X dX10_finds_142 (by decide) ?_
                    refine J_kill 5 ?_
                    refine J_kill 6 ?_
                    by_cases hq : isK (f i % 128) kd
                    · rw [bI_t hq] at his
                      first
                        | (exfalso; omega)
                        | exact ih5 _ _ _ _ _ (by omega) (PR_ext (PR_push hpr hi.1 hq cq90) (fun j _ _ => nrm_step hw j)) (fun j a => by simp only [iu]; rw [if_neg (by omega)]; exact hge j (by omega)) hM hS hHe hI hF (by omega)
                        | exact ih5 _ _ _ _ _ (by omega) (PR_ext (PR_none hpr hi.1 hq cq90 (by omega)) (fun j _ _ => nrm_step hw j)) (fun j a => by simp only [iu]; rw [if_neg (by omega)]; exact hge j (by omega)) hM hS hHe hI hF (by omega)
                        | exact ih5 _ _ _ _ _ (by omega) (PR_ext (PR_pop hpr hi.1 hq cq90 (by omega)) (fun j _ _ => nrm_pop (by omega) j)) (fun j a => by simp only [iu]; rw [if_neg (by omega), if_neg (by omega), if_neg (by omega)]; exact hge j (by omega)) hM hS hHe hI hF (by omega)
                    · rw [bI_f hq] at his
                      first
                        | (exfalso; omega)
                        | exact ih5 _ _ _ _ _ (by omega) (PR_ext (PR_skip hpr hi.1 hq) (fun j _ _ => nrm_step hw j)) (fun j a => by simp only [iu]; rw [if_neg (by omega)]; exact hge j (by omega)) hM hS hHe hI hF (by omega)
                  · have hh := PR_hp hpr hi.1 (by omega)
                    refine J_iinc (q := 119) X dX10_finds_116 rfl (by decide) rfl rfl ?_
                    refine J_aload_n (q := 120) X dX10_finds_119 rfl rfl ?_
                    refine J_iload (q := 122) X dX10_finds_120 rfl rfl ?_
                    refine J_aload_n (q := 123) X dX10_finds_122 rfl rfl ?_
                    refine J_get (q := 126) X dX10_finds_123 fX10_34 hM (by omega) rfl rfl ?_
                    refine J_iload_n (q := 127) X dX10_finds_126 rfl rfl ?_
                    refine J_iald (q := 128) X dX10_finds_127 hHe (by omega) (by omega) (by decide) rfl ?_
                    refine J_iast (q := 129) X dX10_finds_128 hI (by omega) (by omega) (by decide) rfl (fun Ew128 hkq128 hsq128 => ?_)
                    replace hI := hkq128
                    replace hM := (hsq128 78 (by omega)).trans hM
                    replace hS := (hsq128 79 (by omega)).trans hS
                    replace hHe := (hsq128 87 (by omega)).trans hHe
                    replace hF : ∀ j : Nat, j ≠ 87 ∧ j ≠ q → Ew128 j = E0 j := fun j hj => (hsq128 j (by omega)).trans (hF j hj)
                    refine J_aload_n (q := 130) X dX10_finds_129 rfl rfl ?_
                    refine J_aload_n (q := 131) X dX10_finds_130 rfl rfl ?_
                    refine J_get (q := 134) X dX10_finds_131 fX10_34 hM (by omega) rfl rfl ?_
                    refine J_iload_n (q := 135) X dX10_finds_134 rfl rfl ?_
                    refine J_iald (q := 136) X dX10_finds_135 hHe (by omega) (by omega) (by decide) rfl ?_
                    refine J_iload (q := 138) X dX10_finds_136 rfl rfl ?_
                    refine J_iast (q := 139) X dX10_finds_138 hI (by omega) (by rw [show top + -1 = top - 1 by omega]; omega) (by decide) rfl (fun Ew138 hkq138 hsq138 => ?_)
                    replace hI := hkq138
                    replace hM := (hsq138 78 (by omega)).trans hM
                    replace hS := (hsq138 79 (by omega)).trans hS
                    replace hHe := (hsq138 87 (by omega)).trans hHe
                    replace hF : ∀ j : Nat, j ≠ 87 ∧ j ≠ q → Ew138 j = E0 j := fun j hj => (hsq138 j (by omega)).trans (hF j hj)
                    refine J_iinc (q := 142) X dX10_finds_139 rfl (by decide) rfl rfl ?_
                    refine J_goto (q := 5) X dX10_finds_142 (by decide) ?_
                    refine J_kill 5 ?_
                    refine J_kill 6 ?_
                    by_cases hq : isK (f i % 128) kd
                    · rw [bI_t hq] at his
                      first
                        | (exfalso; omega)
                        | exact ih5 _ _ _ _ _ (by omega) (PR_ext (PR_push hpr hi.1 hq cq90) (fun j _ _ => nrm_step hw j)) (fun j a => by simp only [iu]; rw [if_neg (by omega)]; exact hge j (by omega)) hM hS hHe hI hF (by omega)
                        | exact ih5 _ _ _ _ _ (by omega) (PR_ext (PR_none hpr hi.1 hq cq90 (by omega)) (fun j _ _ => nrm_step hw j)) (fun j a => by simp only [iu]; rw [if_neg (by omega)]; exact hge j (by omega)) hM hS hHe hI hF (by omega)
                        | exact ih5 _ _ _ _ _ (by omega) (PR_ext (PR_pop hpr hi.1 hq cq90 (by omega)) (fun j _ _ => nrm_pop (by omega) j)) (fun j a => by simp only [iu]; rw [if_neg (by omega), if_neg (by omega), if_neg (by omega)]; exact hge j (by omega)) hM hS hHe hI hF (by omega)
                    · rw [bI_f hq] at his
                      first
                        | (exfalso; omega)
                        | exact ih5 _ _ _ _ _ (by omega) (PR_ext (PR_skip hpr hi.1 hq) (fun j _ _ => nrm_step hw j)) (fun j a => by simp only [iu]; rw [if_neg (by omega)]; exact hge j (by omega)) hM hS hHe hI hF (by omega)
              · refine J_aload_n (q := 94) X dX10_finds_93 rfl rfl ?_
                refine J_get (q := 97) X dX10_finds_94 fX10_34 hM (by omega) rfl rfl ?_
                refine J_iload_n (q := 98) X dX10_finds_97 rfl rfl ?_
                refine J_iload (q := 100) X dX10_finds_98 rfl rfl ?_
                refine J_iast (q := 101) X dX10_finds_100 hHe (by omega) (by omega) (by decide) rfl (fun Ew100 hkq100 hsq100 => ?_)
                replace hHe := hkq100
                replace hM := (hsq100 78 (by omega)).trans hM
                replace hS := (hsq100 79 (by omega)).trans hS
                replace hI := (hsq100 q (by omega)).trans hI
                replace hF : ∀ j : Nat, j ≠ 87 ∧ j ≠ q → Ew100 j = E0 j := fun j hj => (hsq100 j (by omega)).trans (hF j hj)
                refine J_iinc (q := 104) X dX10_finds_101 rfl (by decide) rfl rfl ?_
                refine J_goto (q := 139) X dX10_finds_104 (by decide) ?_
                refine J_iinc (q := 142) X dX10_finds_139 rfl (by decide) rfl rfl ?_
                refine J_goto (q := 5) X dX10_finds_142 (by decide) ?_
                refine J_kill 5 ?_
                refine J_kill 6 ?_
                by_cases hq : isK (f i % 128) kd
                · rw [bI_t hq] at his
                  first
                    | (exfalso; omega)
                    | exact ih5 _ _ _ _ _ (by omega) (PR_ext (PR_push hpr hi.1 hq cq90) (fun j _ _ => nrm_step hw j)) (fun j a => by simp only [iu]; rw [if_neg (by omega)]; exact hge j (by omega)) hM hS hHe hI hF (by omega)
                    | exact ih5 _ _ _ _ _ (by omega) (PR_ext (PR_none hpr hi.1 hq cq90 (by omega)) (fun j _ _ => nrm_step hw j)) (fun j a => by simp only [iu]; rw [if_neg (by omega)]; exact hge j (by omega)) hM hS hHe hI hF (by omega)
                    | exact ih5 _ _ _ _ _ (by omega) (PR_ext (PR_pop hpr hi.1 hq cq90 (by omega)) (fun j _ _ => nrm_pop (by omega) j)) (fun j a => by simp only [iu]; rw [if_neg (by omega), if_neg (by omega), if_neg (by omega)]; exact hge j (by omega)) hM hS hHe hI hF (by omega)
                · rw [bI_f hq] at his
                  first
                    | (exfalso; omega)
                    | exact ih5 _ _ _ _ _ (by omega) (PR_ext (PR_skip hpr hi.1 hq) (fun j _ _ => nrm_step hw j)) (fun j a => by simp only [iu]; rw [if_neg (by omega)]; exact hge j (by omega)) hM hS hHe hI hF (by omega)
          refine J_aload_n (q := 54) X dX10_finds_53 rfl rfl ?_
          refine J_iload (q := 56) X dX10_finds_54 rfl rfl ?_
          refine J_iload (q := 58) X dX10_finds_56 rfl rfl ?_
          refine J_if_ne (q := 61) (tgt := 70) X dX10_finds_58 (by decide) rfl (by omega) (fun cq58 => ?_) (fun cq58 => ?_)
          · refine J_bipush (q := 72) X dX10_finds_70 rfl (by decide) ?_
            refine J_goto (q := 79) X dX10_finds_72 (by decide) ?_
            refine J_iast (q := 80) X dX10_finds_79 hI (by omega) (by omega) (by decide) rfl (fun Ew79 hkq79 hsq79 => ?_)
            replace hI := hkq79
            replace hM := (hsq79 78 (by omega)).trans hM
            replace hS := (hsq79 79 (by omega)).trans hS
            replace hHe := (hsq79 87 (by omega)).trans hHe
            replace hF : ∀ j : Nat, j ≠ 87 ∧ j ≠ q → Ew79 j = E0 j := fun j hj => (hsq79 j (by omega)).trans (hF j hj)
            refine jn80 _ _ ?_ hM hS hHe hI hF
            by_cases hq : isK (f i % 128) kd
            · rw [bI_t hq] at his; first | (exfalso; omega) | (rw [if_pos hq])
            · rw [bI_f hq] at his
              rw [if_neg hq]
              first
                | (exfalso; omega)
                | (show (-4 : Int) = (if _ then _ else _); rw [if_pos (by omega)])
                | (show gg i = (if _ then _ else _); rw [if_neg (by omega)]; exact hge i (Int.le_refl i))
          · refine J_iload_n (q := 62) X dX10_finds_61 rfl rfl ?_
            refine J_iconst (q := 63) X dX10_finds_62 rfl ?_
            refine J_icmp_eq (q := 66) (tgt := 70) X dX10_finds_63 (by decide) rfl (by omega) (by omega) (fun cq63 => ?_) (fun cq63 => ?_)
            · refine J_bipush (q := 72) X dX10_finds_70 rfl (by decide) ?_
              refine J_goto (q := 79) X dX10_finds_72 (by decide) ?_
              refine J_iast (q := 80) X dX10_finds_79 hI (by omega) (by omega) (by decide) rfl (fun Ew79 hkq79 hsq79 => ?_)
              replace hI := hkq79
              replace hM := (hsq79 78 (by omega)).trans hM
              replace hS := (hsq79 79 (by omega)).trans hS
              replace hHe := (hsq79 87 (by omega)).trans hHe
              replace hF : ∀ j : Nat, j ≠ 87 ∧ j ≠ q → Ew79 j = E0 j := fun j hj => (hsq79 j (by omega)).trans (hF j hj)
              refine jn80 _ _ ?_ hM hS hHe hI hF
              by_cases hq : isK (f i % 128) kd
              · rw [bI_t hq] at his; first | (exfalso; omega) | (rw [if_pos hq])
              · rw [bI_f hq] at his
                rw [if_neg hq]
                first
                  | (exfalso; omega)
                  | (show (-4 : Int) = (if _ then _ else _); rw [if_pos (by omega)])
                  | (show gg i = (if _ then _ else _); rw [if_neg (by omega)]; exact hge i (Int.le_refl i))
            · refine J_iload_n (q := 67) X dX10_finds_66 rfl rfl ?_
              refine J_if_ne (q := 70) (tgt := 75) X dX10_finds_67 (by decide) rfl (by omega) (fun cq67 => ?_) (fun cq67 => ?_)
              · refine J_aload_n (q := 76) X dX10_finds_75 rfl rfl ?_
                refine J_iload (q := 78) X dX10_finds_76 rfl rfl ?_
                refine J_iald (q := 79) X dX10_finds_78 hI (by omega) (by omega) (by decide) rfl ?_
                refine J_iast (q := 80) X dX10_finds_79 hI (by omega) (by omega) (by decide) rfl (fun Ew79 hkq79 hsq79 => ?_)
                replace hI := hkq79
                replace hM := (hsq79 78 (by omega)).trans hM
                replace hS := (hsq79 79 (by omega)).trans hS
                replace hHe := (hsq79 87 (by omega)).trans hHe
                replace hF : ∀ j : Nat, j ≠ 87 ∧ j ≠ q → Ew79 j = E0 j := fun j hj => (hsq79 j (by omega)).trans (hF j hj)
                refine jn80 _ _ ?_ hM hS hHe hI hF
                by_cases hq : isK (f i % 128) kd
                · rw [bI_t hq] at his; first | (exfalso; omega) | (rw [if_pos hq])
                · rw [bI_f hq] at his
                  rw [if_neg hq]
                  first
                    | (exfalso; omega)
                    | (show (-4 : Int) = (if _ then _ else _); rw [if_pos (by omega)])
                    | (show gg i = (if _ then _ else _); rw [if_neg (by omega)]; exact hge i (Int.le_refl i))
              · refine J_bipush (q := 72) X dX10_finds_70 rfl (by decide) ?_
                refine J_goto (q := 79) X dX10_finds_72 (by decide) ?_
                refine J_iast (q := 80) X dX10_finds_79 hI (by omega) (by omega) (by decide) rfl (fun Ew79 hkq79 hsq79 => ?_)
                replace hI := hkq79
                replace hM := (hsq79 78 (by omega)).trans hM
                replace hS := (hsq79 79 (by omega)).trans hS
                replace hHe := (hsq79 87 (by omega)).trans hHe
                replace hF : ∀ j : Nat, j ≠ 87 ∧ j ≠ q → Ew79 j = E0 j := fun j hj => (hsq79 j (by omega)).trans (hF j hj)
                refine jn80 _ _ ?_ hM hS hHe hI hF
                by_cases hq : isK (f i % 128) kd
                · rw [bI_t hq] at his; first | (exfalso; omega) | (rw [if_pos hq])
                · rw [bI_f hq] at his
                  rw [if_neg hq]
                  first
                    | (exfalso; omega)
                    | (show (-4 : Int) = (if _ then _ else _); rw [if_pos (by omega)])
                    | (show gg i = (if _ then _ else _); rw [if_neg (by omega)]; exact hge i (Int.le_refl i))
        refine J_iload (q := 24) X dX10_finds_22 rfl rfl ?_
        refine J_callP (q := 27) (jrS X mX10_78 dX10_finds_24 (c_X10_kindOf (by omega)) rfl rfl (Nat.le_of_ble_eq_true rfl) (by decide)) rfl ?_
        refine J_bipush (q := 29) X dX10_finds_27 rfl (by decide) ?_
        refine J_icmp_eq (q := 32) (tgt := 50) X dX10_finds_29 (by decide) rfl (by omega) (by omega) (fun cq29 => ?_) (fun cq29 => ?_)
        · refine J_iconst (q := 51) X dX10_finds_50 rfl ?_
          first
            | exact jn51 _ (by rw [bI_t (show isK (f i % 128) kd from ⟨by omega, by omega⟩)])
            | exact jn51 _ (by rw [bI_f (fun z => by obtain ⟨z1, z2⟩ := z; omega)])
        · refine J_iload_n (q := 33) X dX10_finds_32 rfl rfl ?_
          refine J_iconst (q := 34) X dX10_finds_33 rfl ?_
          refine J_icmp_eq (q := 37) (tgt := 46) X dX10_finds_34 (by decide) rfl (by omega) (by omega) (fun cq34 => ?_) (fun cq34 => ?_)
          · refine J_iconst (q := 47) X dX10_finds_46 rfl ?_
            refine J_goto (q := 51) X dX10_finds_47 (by decide) ?_
            first
              | exact jn51 _ (by rw [bI_t (show isK (f i % 128) kd from ⟨by omega, by omega⟩)])
              | exact jn51 _ (by rw [bI_f (fun z => by obtain ⟨z1, z2⟩ := z; omega)])
          · refine J_iload (q := 39) X dX10_finds_37 rfl rfl ?_
            refine J_callP (q := 42) (jrS X mX10_78 dX10_finds_39 (c_X10_kindOf (by omega)) rfl rfl (Nat.le_of_ble_eq_true rfl) (by decide)) rfl ?_
            refine J_iload_n (q := 43) X dX10_finds_42 rfl rfl ?_
            refine J_icmp_ne (q := 46) (tgt := 50) X dX10_finds_43 (by decide) rfl (by omega) (by omega) (fun cq43 => ?_) (fun cq43 => ?_)
            · refine J_iconst (q := 51) X dX10_finds_50 rfl ?_
              first
                | exact jn51 _ (by rw [bI_t (show isK (f i % 128) kd from ⟨by omega, by omega⟩)])
                | exact jn51 _ (by rw [bI_f (fun z => by obtain ⟨z1, z2⟩ := z; omega)])
            · refine J_iconst (q := 47) X dX10_finds_46 rfl ?_
              refine J_goto (q := 51) X dX10_finds_47 (by decide) ?_
              first
                | exact jn51 _ (by rw [bI_t (show isK (f i % 128) kd from ⟨by omega, by omega⟩)])
                | exact jn51 _ (by rw [bI_f (fun z => by obtain ⟨z1, z2⟩ := z; omega)])
  exact lp5 100 _ _ _ _ _ (by omega) PR_n0 (fun j _ => rfl) hM hS hHe hI hF (by omega)

set_option maxRecDepth 100000 in
set_option maxHeartbeats 4000000 in
theorem c_X10_findsAll {l : Launch} {Γ : JG} {ad : Nat → Nat} {E : Nat → va_E} {m0 m1 m2 m3 m4 m5 m6 m7 m8 m9 m10 m11 m12 m13 m14 : Int} {g pa al he : Int → Int} {n : Int} {f : Int → Int}  (hM : E 78 = .inr (9, [.ref (ad 79), .ref (ad 80), .int (jI m0), .int (jI m1), .int (jI m2), .int (jI m3), .int (jI m4), .int (jI m5), .int (jI m6), .int (jI m7), .int (jI m8), .int (jI m9), .int (jI m10), .int (jI m11), .ref (ad 81), .ref (ad 82), .ref (ad 83), .ref (ad 84), .ref (ad 85), .ref (ad 86), .ref (ad 87), .ref (ad 88), .ref (ad 89), .int (jI m12), .int (jI m13), .ref (ad 90), .ref (ad 91), .ref (ad 92), .ref (ad 93), .ref (ad 94), .int (jI m14)])) (hS : E 79 = aI Γ 305 g) (hPa : E 85 = aI Γ 60 pa) (hAl : E 86 = aI Γ 60 al) (hHe : E 87 = aI Γ 60 he) (hg : MS g n f) (hv : VR f n) : JM l Γ yX10_findsAll cX10_findsAll 2 none 2 47 0 0 ad 95 E [.ref (ad 78)] (pV (fun E' => ∃ pa' al' he' : Int → Int, E' 85 = aI Γ 60 pa' ∧ E' 86 = aI Γ 60 al' ∧ E' 87 = aI Γ 60 he' ∧ (∀ j, 0 ≤ j → j < n → pa' j = prt 3 f n j) ∧ (∀ j, 0 ≤ j → j < n → al' j = alF f n j) ∧ ∀ j : Nat, ¬ (85 ≤ j ∧ j ≤ 87) → E' j = E j)) := by
  refine JM_intro (own := RX10) [some (.ref (ad 78)), none] rfl rfl rfl (Nat.le_of_ble_eq_true rfl) ?_
  intro Ω X R hin
  obtain ⟨E0, hE0⟩ : ∃ E0 : Nat → va_E, E0 = E := ⟨_, rfl⟩
  have hF : ∀ j : Nat, ¬ (85 ≤ j ∧ j ≤ 87) → E j = E0 j := fun _ _ => by rw [hE0]
  obtain ⟨hgn, hgf⟩ := id hg
  obtain ⟨hn, hvr⟩ := id hv
  refine J_aload_n (q := 1) X dX10_findsAll_0 rfl rfl ?_
  refine J_iconst (q := 2) X dX10_findsAll_1 rfl ?_
  refine J_aload_n (q := 3) X dX10_findsAll_2 rfl rfl ?_
  refine J_get (q := 6) X dX10_findsAll_3 fX10_28 hM (by omega) rfl rfl ?_
  refine J_callV (q := 9) (jrV X mX10_173 dX10_findsAll_6 (c_X10_finds hM hS hHe hPa hg hv (by omega) (by omega)) hM (by omega) rfl rfl rfl rfl (Nat.le_of_ble_eq_true rfl) (by decide)) rfl (fun Ew6 hpq6 => ?_)
  obtain ⟨hpqq6, gq6, kHe, kPa, hgq6, hsq6⟩ := hpq6
  replace hHe := kHe
  replace hPa := kPa
  replace hM := (hsq6 78 (by omega)).trans hM
  replace hS := (hsq6 79 (by omega)).trans hS
  replace hAl := (hsq6 86 (by omega)).trans hAl
  replace hF : ∀ j : Nat, ¬ (85 ≤ j ∧ j ≤ 87) → Ew6 j = E0 j := fun j hj => (hsq6 j (by omega)).trans (hF j hj)
  have hpa2 : ∀ j, 0 ≤ j → j < n → gq6 j = prt 3 f n j := fun j a b => by
    rw [hgq6 j a b]
    by_cases hk : isK (f j % 128) 3
    · rw [if_pos hk]
    · rw [if_neg hk, prt_not hn.1 hk]; rfl
  refine J_iconst (q := 10) X dX10_findsAll_9 rfl ?_
  refine J_istore_n (q := 11) X dX10_findsAll_10 (by decide) rfl rfl ?_
  have lp11 : ∀ (m : Nat) (kk : Int) (al he : Int → Int) (E : Nat → va_E) (hkk : 0 ≤ kk ∧ kk ≤ 3) (hal : kk = 0 ∨ (∀ j, 0 ≤ j → j < n → al j = if brk (f j % 128) ∧ knd (f j % 128) < kk then prt (knd (f j % 128)) f n j else -4)) (hM : E 78 = .inr (9, [.ref (ad 79), .ref (ad 80), .int (jI m0), .int (jI m1), .int (jI m2), .int (jI m3), .int (jI m4), .int (jI m5), .int (jI m6), .int (jI m7), .int (jI m8), .int (jI m9), .int (jI m10), .int (jI m11), .ref (ad 81), .ref (ad 82), .ref (ad 83), .ref (ad 84), .ref (ad 85), .ref (ad 86), .ref (ad 87), .ref (ad 88), .ref (ad 89), .int (jI m12), .int (jI m13), .ref (ad 90), .ref (ad 91), .ref (ad 92), .ref (ad 93), .ref (ad 94), .int (jI m14)])) (hS : E 79 = aI Γ 305 g) (hPa : E 85 = aI Γ 60 gq6) (hAl : E 86 = aI Γ 60 al) (hHe : E 87 = aI Γ 60 he) (hF : ∀ j : Nat, ¬ (85 ≤ j ∧ j ≤ 87) → E j = E0 j) (hm : 3 - kk + 1 ≤ (m : Int)), J l Γ Ω 2 ad 95 0 0 E 11 [some (.ref (ad 78)), some (.int (jI kk))] [] := by
    intro m
    induction m with
    | zero => intro kk al he E hkk hal hM hS hPa hAl hHe hF hm; exfalso; omega
    | succ m ih11 =>
      intro kk al he E hkk hal hM hS hPa hAl hHe hF hm
      refine J_iload_n (q := 12) X dX10_findsAll_11 rfl rfl ?_
      refine J_iconst (q := 13) X dX10_findsAll_12 rfl ?_
      refine J_icmp_ge (q := 16) (tgt := 31) X dX10_findsAll_13 (by decide) rfl (by omega) (by omega) (fun cq13 => ?_) (fun cq13 => ?_)
      · refine J_vret X R dX10_findsAll_31 ?_
        rw [hE0] at hF
        obtain rfl : kk = 3 := by omega
        refine ⟨rfl, _, _, _, hPa, hAl, hHe, hpa2, fun j a b => ?_, hF⟩
        rcases hal with z | z
        · omega
        · rw [z j a b]
          unfold alF
          have hkb := knd_bd (f j % 128)
          by_cases hb : brk (f j % 128)
          · rw [if_pos hb, if_pos ⟨hb, by omega⟩]
          · rw [if_neg hb, if_neg (fun z => hb z.1)]
      · refine J_aload_n (q := 17) X dX10_findsAll_16 rfl rfl ?_
        refine J_iload_n (q := 18) X dX10_findsAll_17 rfl rfl ?_
        refine J_aload_n (q := 19) X dX10_findsAll_18 rfl rfl ?_
        refine J_get (q := 22) X dX10_findsAll_19 fX10_31 hM (by omega) rfl rfl ?_
        refine J_callV (q := 25) (jrV X mX10_173 dX10_findsAll_22 (c_X10_finds hM hS hHe hAl hg hv (by omega) (by omega)) hM (by omega) rfl rfl rfl rfl (Nat.le_of_ble_eq_true rfl) (by decide)) rfl (fun Ew22 hpq22 => ?_)
        obtain ⟨hpqq22, gq22, kHe, kAl, hgq22, hsq22⟩ := hpq22
        replace hHe := kHe
        replace hAl := kAl
        replace hM := (hsq22 78 (by omega)).trans hM
        replace hS := (hsq22 79 (by omega)).trans hS
        replace hPa := (hsq22 85 (by omega)).trans hPa
        replace hF : ∀ j : Nat, ¬ (85 ≤ j ∧ j ≤ 87) → Ew22 j = E0 j := fun j hj => (hsq22 j (by omega)).trans (hF j hj)
        refine J_iinc (q := 28) X dX10_findsAll_25 rfl (by decide) rfl rfl ?_
        refine J_goto (q := 11) X dX10_findsAll_28 (by decide) ?_
        refine ih11 _ _ _ _ (by omega) (Or.inr (fun j a b => ?_)) hM hS hPa hAl hHe hF (by omega)
        rw [hgq22 j a b]
        have hkb := knd_bd (f j % 128)
        have hkb2 := knd_brk (f j % 128)
        by_cases hk : isK (f j % 128) kk
        · rw [if_pos hk, if_pos ⟨hk.1, by have := hk.2; omega⟩]
          rw [show knd (f j % 128) = kk by have := hk.2; omega]
        · rw [if_neg hk]
          show (if _ then _ else _) = _
          rcases hal with z | z
          · rw [if_pos (by omega), if_neg (fun y => hk ⟨y.1, by have := y.2; omega⟩)]
          · by_cases h0 : kk = 0
            · rw [if_pos (by omega), if_neg (fun y => hk ⟨y.1, by have := y.2; omega⟩)]
            · rw [if_neg (by omega), z j a b]
              by_cases hb : brk (f j % 128) ∧ knd (f j % 128) < kk
              · rw [if_pos hb, if_pos ⟨hb.1, by omega⟩]
              · rw [if_neg hb, if_neg (fun y => ?_)]
                by_cases hq : knd (f j % 128) = kk
                · exact hk ⟨y.1, Or.inr hq⟩
                · exact hb ⟨y.1, by omega⟩
  exact lp11 10 _ _ _ _ (by omega) (Or.inl rfl) hM hS hPa hAl hHe hF (by omega)

set_option maxRecDepth 100000 in
set_option maxHeartbeats 4000000 in
theorem c_X10_depthAt {l : Launch} {Γ : JG} {ad : Nat → Nat} {E : Nat → va_E} {m0 m1 m2 m3 m4 m5 m6 m7 m8 m9 m10 m11 m12 m13 m14 : Int} {g : Int → Int} {n i : Int} {f : Int → Int}  (hM : E 78 = .inr (9, [.ref (ad 79), .ref (ad 80), .int (jI m0), .int (jI m1), .int (jI m2), .int (jI m3), .int (jI m4), .int (jI m5), .int (jI m6), .int (jI m7), .int (jI m8), .int (jI m9), .int (jI m10), .int (jI m11), .ref (ad 81), .ref (ad 82), .ref (ad 83), .ref (ad 84), .ref (ad 85), .ref (ad 86), .ref (ad 87), .ref (ad 88), .ref (ad 89), .int (jI m12), .int (jI m13), .ref (ad 90), .ref (ad 91), .ref (ad 92), .ref (ad 93), .ref (ad 94), .int (jI m14)])) (hS : E 79 = aI Γ 305 g) (hg : MS g n f) (hv : VR f n) (hi : 0 ≤ i ∧ i ≤ n) : JM l Γ yX10_depthAt cX10_depthAt 4 (some .int) 1 21 0 0 ad 95 E [.ref (ad 78), .int (jI i)] (pP (dep f i) E) := by
  refine JM_intro (own := RX10) [some (.ref (ad 78)), some (.int (jI i)), none, none] rfl rfl rfl (Nat.le_of_ble_eq_true rfl) ?_
  intro Ω X R hin
  obtain ⟨hgn, hgf⟩ := id hg
  obtain ⟨hn, hvr⟩ := id hv
  refine J_iconst (q := 1) X dX10_depthAt_0 rfl ?_
  refine J_istore_n (q := 2) X dX10_depthAt_1 (by decide) rfl rfl ?_
  refine J_iconst (q := 3) X dX10_depthAt_2 rfl ?_
  refine J_istore_n (q := 4) X dX10_depthAt_3 (by decide) rfl rfl ?_
  have lp4 : ∀ (m : Nat) (t : Int) (ht : 0 ≤ t ∧ t ≤ i) (hm : i - t + 1 ≤ (m : Int)), J l Γ Ω 4 ad 95 0 0 E 4 [some (.ref (ad 78)), some (.int (jI i)), some (.int (jI (smI (fun j => bI (opn (f j % 128)) - bI (clo (f j % 128))) t))), some (.int (jI t))] [] := by
    intro m
    induction m with
    | zero => intro t ht hm; exfalso; omega
    | succ m ih4 =>
      intro t ht hm
      refine J_iload_n (q := 5) X dX10_depthAt_4 rfl rfl ?_
      refine J_iload_n (q := 6) X dX10_depthAt_5 rfl rfl ?_
      refine J_icmp_ge (q := 9) (tgt := 49) X dX10_depthAt_6 (by decide) rfl (by omega) (by omega) (fun cq6 => ?_) (fun cq6 => ?_)
      · refine J_iload_n (q := 50) X dX10_depthAt_49 rfl rfl ?_
        refine J_iret X R dX10_depthAt_50 ?_
        exact ⟨by rw [show t = i by omega]; rfl, rfl⟩
      · refine J_iload_n (q := 10) X dX10_depthAt_9 rfl rfl ?_
        refine J_aload_n (q := 11) X dX10_depthAt_10 rfl rfl ?_
        refine J_iload_n (q := 12) X dX10_depthAt_11 rfl rfl ?_
        refine J_callP (q := 15) (jrV X mX10_170 dX10_depthAt_12 (c_X10_signAt hM hS hg hv (by omega)) hM (by omega) rfl rfl rfl rfl (Nat.le_of_ble_eq_true rfl) (by decide)) rfl ?_
        refine J_callP (q := 18) (jrS X mX10_142 dX10_depthAt_15 (c_X10_isOpen (by omega)) rfl rfl (Nat.le_of_ble_eq_true rfl) (by decide)) rfl ?_
        refine J_if_eqB (q := 21) (tgt := 25) X dX10_depthAt_18 (by decide) rfl (fun cq18 => ?_) (fun cq18 => ?_)
        · refine J_aload_n (q := 26) X dX10_depthAt_25 rfl rfl ?_
          refine J_iload_n (q := 27) X dX10_depthAt_26 rfl rfl ?_
          refine J_callP (q := 30) (jrV X mX10_170 dX10_depthAt_27 (c_X10_signAt hM hS hg hv (by omega)) hM (by omega) rfl rfl rfl rfl (Nat.le_of_ble_eq_true rfl) (by decide)) rfl ?_
          refine J_callP (q := 33) (jrS X mX10_186 dX10_depthAt_30 (c_X10_isClose (by omega)) rfl rfl (Nat.le_of_ble_eq_true rfl) (by decide)) rfl ?_
          refine J_if_eqB (q := 36) (tgt := 40) X dX10_depthAt_33 (by decide) rfl (fun cq33 => ?_) (fun cq33 => ?_)
          · refine J_iconst (q := 41) X dX10_depthAt_40 rfl ?_
            refine J_iadd (q := 42) X dX10_depthAt_41 rfl ?_
            refine J_istore_n (q := 43) X dX10_depthAt_42 (by decide) rfl rfl ?_
            refine J_iinc (q := 46) X dX10_depthAt_43 rfl (by decide) rfl rfl ?_
            refine J_goto (q := 4) X dX10_depthAt_46 (by decide) ?_
            have hx := ih4 (t + 1) (by omega) (by omega)
            rw [smI_succ (fun j => bI (opn (f j % 128)) - bI (clo (f j % 128))) ht.1] at hx
            first
              | (rw [bI_t cq18, bI_f (show ¬ clo (f t % 128) by omega)] at hx; exact hx)
              | (rw [bI_f cq18, bI_t cq33] at hx; exact hx)
              | (rw [bI_f cq18, bI_f cq33] at hx; exact hx)
          · refine J_iconst (q := 37) X dX10_depthAt_36 rfl ?_
            refine J_goto (q := 41) X dX10_depthAt_37 (by decide) ?_
            refine J_iadd (q := 42) X dX10_depthAt_41 rfl ?_
            refine J_istore_n (q := 43) X dX10_depthAt_42 (by decide) rfl rfl ?_
            refine J_iinc (q := 46) X dX10_depthAt_43 rfl (by decide) rfl rfl ?_
            refine J_goto (q := 4) X dX10_depthAt_46 (by decide) ?_
            have hx := ih4 (t + 1) (by omega) (by omega)
            rw [smI_succ (fun j => bI (opn (f j % 128)) - bI (clo (f j % 128))) ht.1] at hx
            first
              | (rw [bI_t cq18, bI_f (show ¬ clo (f t % 128) by omega)] at hx; exact hx)
              | (rw [bI_f cq18, bI_t cq33] at hx; exact hx)
              | (rw [bI_f cq18, bI_f cq33] at hx; exact hx)
        · refine J_iconst (q := 22) X dX10_depthAt_21 rfl ?_
          refine J_goto (q := 41) X dX10_depthAt_22 (by decide) ?_
          refine J_iadd (q := 42) X dX10_depthAt_41 rfl ?_
          refine J_istore_n (q := 43) X dX10_depthAt_42 (by decide) rfl rfl ?_
          refine J_iinc (q := 46) X dX10_depthAt_43 rfl (by decide) rfl rfl ?_
          refine J_goto (q := 4) X dX10_depthAt_46 (by decide) ?_
          have hx := ih4 (t + 1) (by omega) (by omega)
          rw [smI_succ (fun j => bI (opn (f j % 128)) - bI (clo (f j % 128))) ht.1] at hx
          first
            | (rw [bI_t cq18, bI_f (show ¬ clo (f t % 128) by omega)] at hx; exact hx)
            | (rw [bI_f cq18, bI_t cq33] at hx; exact hx)
            | (rw [bI_f cq18, bI_f cq33] at hx; exact hx)
  exact lp4 100 0 (by omega) (by omega)

set_option maxRecDepth 100000 in
set_option maxHeartbeats 4000000 in
theorem c_X10_linesTo {l : Launch} {Γ : JG} {ad : Nat → Nat} {E : Nat → va_E} {m0 m1 m2 m3 m4 m5 m6 m7 m8 m9 m10 m11 m12 m13 m14 : Int} {g : Int → Int} {n i : Int} {f : Int → Int}  (hM : E 78 = .inr (9, [.ref (ad 79), .ref (ad 80), .int (jI m0), .int (jI m1), .int (jI m2), .int (jI m3), .int (jI m4), .int (jI m5), .int (jI m6), .int (jI m7), .int (jI m8), .int (jI m9), .int (jI m10), .int (jI m11), .ref (ad 81), .ref (ad 82), .ref (ad 83), .ref (ad 84), .ref (ad 85), .ref (ad 86), .ref (ad 87), .ref (ad 88), .ref (ad 89), .int (jI m12), .int (jI m13), .ref (ad 90), .ref (ad 91), .ref (ad 92), .ref (ad 93), .ref (ad 94), .int (jI m14)])) (hS : E 79 = aI Γ 305 g) (hg : MS g n f) (hv : VR f n) (hi : 0 ≤ i ∧ i ≤ n) : JM l Γ yX10_linesTo cX10_linesTo 4 (some .int) 1 21 0 0 ad 95 E [.ref (ad 78), .int (jI i)] (pP (lin f i) E) := by
  refine JM_intro (own := RX10) [some (.ref (ad 78)), some (.int (jI i)), none, none] rfl rfl rfl (Nat.le_of_ble_eq_true rfl) ?_
  intro Ω X R hin
  obtain ⟨hgn, hgf⟩ := id hg
  obtain ⟨hn, hvr⟩ := id hv
  refine J_iconst (q := 1) X dX10_linesTo_0 rfl ?_
  refine J_istore_n (q := 2) X dX10_linesTo_1 (by decide) rfl rfl ?_
  refine J_iconst (q := 3) X dX10_linesTo_2 rfl ?_
  refine J_istore_n (q := 4) X dX10_linesTo_3 (by decide) rfl rfl ?_
  have lp4 : ∀ (m : Nat) (t : Int) (ht : 0 ≤ t ∧ t ≤ i) (hm : i - t + 1 ≤ (m : Int)), J l Γ Ω 4 ad 95 0 0 E 4 [some (.ref (ad 78)), some (.int (jI i)), some (.int (jI (smI (fun j => bI (f j % 128 = 47)) t))), some (.int (jI t))] [] := by
    intro m
    induction m with
    | zero => intro t ht hm; exfalso; omega
    | succ m ih4 =>
      intro t ht hm
      refine J_iload_n (q := 5) X dX10_linesTo_4 rfl rfl ?_
      refine J_iload_n (q := 6) X dX10_linesTo_5 rfl rfl ?_
      refine J_icmp_ge (q := 9) (tgt := 33) X dX10_linesTo_6 (by decide) rfl (by omega) (by omega) (fun cq6 => ?_) (fun cq6 => ?_)
      · refine J_iload_n (q := 34) X dX10_linesTo_33 rfl rfl ?_
        refine J_iret X R dX10_linesTo_34 ?_
        exact ⟨by rw [show t = i by omega]; rfl, rfl⟩
      · refine J_iload_n (q := 10) X dX10_linesTo_9 rfl rfl ?_
        refine J_aload_n (q := 11) X dX10_linesTo_10 rfl rfl ?_
        refine J_iload_n (q := 12) X dX10_linesTo_11 rfl rfl ?_
        refine J_callP (q := 15) (jrV X mX10_170 dX10_linesTo_12 (c_X10_signAt hM hS hg hv (by omega)) hM (by omega) rfl rfl rfl rfl (Nat.le_of_ble_eq_true rfl) (by decide)) rfl ?_
        refine J_bipush (q := 17) X dX10_linesTo_15 rfl (by decide) ?_
        refine J_icmp_ne (q := 20) (tgt := 24) X dX10_linesTo_17 (by decide) rfl (by omega) (by omega) (fun cq17 => ?_) (fun cq17 => ?_)
        · refine J_iconst (q := 25) X dX10_linesTo_24 rfl ?_
          refine J_iadd (q := 26) X dX10_linesTo_25 rfl ?_
          refine J_istore_n (q := 27) X dX10_linesTo_26 (by decide) rfl rfl ?_
          refine J_iinc (q := 30) X dX10_linesTo_27 rfl (by decide) rfl rfl ?_
          refine J_goto (q := 4) X dX10_linesTo_30 (by decide) ?_
          have hx := ih4 (t + 1) (by omega) (by omega)
          rw [smI_succ (fun j => bI (f j % 128 = 47)) ht.1] at hx
          first
            | (rw [bI_t cq17] at hx; exact hx)
            | (rw [bI_f cq17] at hx; exact hx)
        · refine J_iconst (q := 21) X dX10_linesTo_20 rfl ?_
          refine J_goto (q := 25) X dX10_linesTo_21 (by decide) ?_
          refine J_iadd (q := 26) X dX10_linesTo_25 rfl ?_
          refine J_istore_n (q := 27) X dX10_linesTo_26 (by decide) rfl rfl ?_
          refine J_iinc (q := 30) X dX10_linesTo_27 rfl (by decide) rfl rfl ?_
          refine J_goto (q := 4) X dX10_linesTo_30 (by decide) ?_
          have hx := ih4 (t + 1) (by omega) (by omega)
          rw [smI_succ (fun j => bI (f j % 128 = 47)) ht.1] at hx
          first
            | (rw [bI_t cq17] at hx; exact hx)
            | (rw [bI_f cq17] at hx; exact hx)
  exact lp4 100 0 (by omega) (by omega)

set_option maxRecDepth 100000 in
set_option maxHeartbeats 4000000 in
theorem c_X10_levelOf {l : Launch} {Γ : JG} {ad : Nat → Nat} {E : Nat → va_E} {m0 m1 m2 m3 m4 m5 m6 m7 m8 m9 m10 m11 m12 m13 m14 : Int} {g pa : Int → Int} {n i : Int} {f : Int → Int}  (hM : E 78 = .inr (9, [.ref (ad 79), .ref (ad 80), .int (jI m0), .int (jI m1), .int (jI m2), .int (jI m3), .int (jI m4), .int (jI m5), .int (jI m6), .int (jI m7), .int (jI m8), .int (jI m9), .int (jI m10), .int (jI m11), .ref (ad 81), .ref (ad 82), .ref (ad 83), .ref (ad 84), .ref (ad 85), .ref (ad 86), .ref (ad 87), .ref (ad 88), .ref (ad 89), .int (jI m12), .int (jI m13), .ref (ad 90), .ref (ad 91), .ref (ad 92), .ref (ad 93), .ref (ad 94), .int (jI m14)])) (hS : E 79 = aI Γ 305 g) (hPa : E 85 = aI Γ 60 pa) (hg : MS g n f) (hv : VR f n) (hpa : ∀ j, 0 ≤ j → j < n → pa j = prt 3 f n j) (hi : 0 ≤ i ∧ i < n) : JM l Γ yX10_levelOf cX10_levelOf 4 (some .int) 0 0 0 0 ad 95 E [.ref (ad 78), .int (jI i)] (pP (lvl f n i) E) := by
  refine JM_intro (own := RX10) [some (.ref (ad 78)), some (.int (jI i)), none, none] rfl rfl rfl (Nat.le_of_ble_eq_true rfl) ?_
  intro Ω X R hin
  obtain ⟨hgn, hgf⟩ := id hg
  obtain ⟨hn, hvr⟩ := id hv
  refine J_iconst (q := 1) X dX10_levelOf_0 rfl ?_
  refine J_istore_n (q := 2) X dX10_levelOf_1 (by decide) rfl rfl ?_
  refine J_iconst (q := 3) X dX10_levelOf_2 rfl ?_
  refine J_istore_n (q := 4) X dX10_levelOf_3 (by decide) rfl rfl ?_
  have lp4 : ∀ (m : Nat) (t : Int) (ht : 0 ≤ t ∧ t ≤ i) (hm : i - t + 1 ≤ (m : Int)), J l Γ Ω 4 ad 95 0 0 E 4 [some (.ref (ad 78)), some (.int (jI i)), some (.int (jI (smI (fun k => bI (i < prt 3 f n k ∧ True)) t))), some (.int (jI t))] [] := by
    intro m
    induction m with
    | zero => intro t ht hm; exfalso; omega
    | succ m ih4 =>
      intro t ht hm
      refine J_iload_n (q := 5) X dX10_levelOf_4 rfl rfl ?_
      refine J_iload_n (q := 6) X dX10_levelOf_5 rfl rfl ?_
      refine J_icmp_ge (q := 9) (tgt := 33) X dX10_levelOf_6 (by decide) rfl (by omega) (by omega) (fun cq6 => ?_) (fun cq6 => ?_)
      · refine J_iload_n (q := 34) X dX10_levelOf_33 rfl rfl ?_
        refine J_iret X R dX10_levelOf_34 ?_
        exact ⟨by rw [show t = i by omega]; rfl, rfl⟩
      · refine J_iload_n (q := 10) X dX10_levelOf_9 rfl rfl ?_
        refine J_aload_n (q := 11) X dX10_levelOf_10 rfl rfl ?_
        refine J_get (q := 14) X dX10_levelOf_11 fX10_28 hM (by omega) rfl rfl ?_
        refine J_iload_n (q := 15) X dX10_levelOf_14 rfl rfl ?_
        refine J_iald (q := 16) X dX10_levelOf_15 hPa (by omega) (by omega) (by decide) rfl ?_
        refine J_iload_n (q := 17) X dX10_levelOf_16 rfl rfl ?_
        refine J_icmp_le (q := 20) (tgt := 24) X dX10_levelOf_17 (by decide) rfl (by have := hpa t ht.1 (by omega); have := prt_bd (kd := 3) (f := f) (n := n) hn.1 t; omega) (by omega) (fun cq17 => ?_) (fun cq17 => ?_)
        · refine J_iconst (q := 25) X dX10_levelOf_24 rfl ?_
          refine J_iadd (q := 26) X dX10_levelOf_25 rfl ?_
          refine J_istore_n (q := 27) X dX10_levelOf_26 (by decide) rfl rfl ?_
          refine J_iinc (q := 30) X dX10_levelOf_27 rfl (by decide) rfl rfl ?_
          refine J_goto (q := 4) X dX10_levelOf_30 (by decide) ?_
          have hpt := hpa t ht.1 (by omega)
          have hx := ih4 (t + 1) (by omega) (by omega)
          rw [smI_succ (fun k => bI (i < prt 3 f n k ∧ True)) ht.1] at hx
          first
            | (rw [bI_t ⟨by omega, trivial⟩] at hx; exact hx)
            | (rw [bI_f (fun z => by have := z.1; omega)] at hx; exact hx)
        · refine J_iconst (q := 21) X dX10_levelOf_20 rfl ?_
          refine J_goto (q := 25) X dX10_levelOf_21 (by decide) ?_
          refine J_iadd (q := 26) X dX10_levelOf_25 rfl ?_
          refine J_istore_n (q := 27) X dX10_levelOf_26 (by decide) rfl rfl ?_
          refine J_iinc (q := 30) X dX10_levelOf_27 rfl (by decide) rfl rfl ?_
          refine J_goto (q := 4) X dX10_levelOf_30 (by decide) ?_
          have hpt := hpa t ht.1 (by omega)
          have hx := ih4 (t + 1) (by omega) (by omega)
          rw [smI_succ (fun k => bI (i < prt 3 f n k ∧ True)) ht.1] at hx
          first
            | (rw [bI_t ⟨by omega, trivial⟩] at hx; exact hx)
            | (rw [bI_f (fun z => by have := z.1; omega)] at hx; exact hx)
  exact lp4 100 0 (by omega) (by omega)
