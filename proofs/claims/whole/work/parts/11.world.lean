/-! the world: cells by number, at addresses ad; the words that hold everywhere; what lies outside -/
/-- where the law began, classes and slots, the array classes, the table of grown signs, the texts -/
abbrev JG : Type := Nat × va_G × (Nat → ClassId) × Nat × (Nat → Nat) × (Nat → Nat)
def tw : List Cond := lw_tbl.filter goodWord
theorem tw_of {w : Cond} (i : Nat) (h : lw_tbl[i]? = some w) (g : goodWord w = true) : w ∈ tw := List.mem_filter.mpr ⟨List.mem_of_getElem? h, g⟩
theorem tw_good : ∀ w ∈ tw, (w.onTables && w.keeps) = true ∨ ∃ ty, w = .arrayClass ty := fun _ h => good_of_word (List.mem_filter.mp h).2
theorem tw_in {c : Cond} (h : c ∈ tw) : GoodIn tw (c :: tw) := fun w hw => (List.mem_cons.mp hw).elim (fun e => by rw [e]; exact ⟨h, tw_good _ h⟩) (fun q => ⟨q, tw_good _ q⟩)
theorem tw_in1 {c a : Cond} {l : List Cond} (h : a ∈ tw) (hl : GoodIn tw l) : GoodIn tw (a :: l) := fun w hw => (List.mem_cons.mp hw).elim (fun e => by rw [e]; exact ⟨h, tw_good _ h⟩) (hl w)
def jA (Γ : JG) : Nat → Prop := fun q => Γ.1 ≤ q
def jtys (Γ : JG) : List (ClassId × FieldType) := [(Γ.2.2.1 0, .int), (Γ.2.2.1 1, .boolean), (Γ.2.2.1 2, .object RX3), (Γ.2.2.1 3, .object RX4)]
def jnest : List Cond := lw_tbl.filter (fun w => match w with | .fieldLinkNest _ _ _ _ _ _ => true | .methodLinkNest _ _ _ _ => true | _ => false)
def jgrown : List Int := [40, 41, 91, 93, 123, 125, 97, 122, 47]
def jlen : List Nat := [4, 3, 3]
def jbyt : List (List Int32) := [[109, 97, 114, 107], [114, 111, 119], [114, 101, 112]]
/-- what of the surroundings every method may rest on -/
def jenv (Γ : JG) (U : State) : Prop :=
  va_K Γ.2.1 vwCl (jtys Γ) U ∧ (∀ w ∈ jnest, va_Nw w U) ∧
  (va_Z RX9 "GROWN" "[C" (.ref Γ.2.2.2.1) (jA Γ) U U.heap ∧ va_T .char Γ.2.2.2.1 9 (fun j => .int (jI (jgrown.getD j 0))) (jA Γ) U U.heap) ∧
  (va_Z RJ0 "COMPACT_STRINGS" "Z" (.int 1) (jA Γ) U U.heap ∧ va_Zq RJ3 "SIOOBE_FORMATTER" "Ljava/util/function/BiFunction;" (jA Γ) U U.heap) ∧
  (vk_S 3 jlen jbyt Γ.2.2.2.2.1 Γ.2.2.2.2.2 (jA Γ) U U.heap ∧ vk_R RX7 93 "mark" (Γ.2.2.2.2.1 0) U ∧ vk_R RX7 103 "row" (Γ.2.2.2.2.1 1) U ∧ vk_R RX7 109 "\x72ep" (Γ.2.2.2.2.1 2) U) ∧
  (va_AO RX3 U ∧ va_AO RX4 U) ∧ Γ.1 ≤ U.heap.size
theorem jnest_warm {w : Cond} (hw : w ∈ jnest) {s U : State} (hW : s.WarmedH U.vm) (h : va_Nw w s) : va_Nw w U := by
  have h2 := (List.mem_filter.mp hw).2
  cases w <;> first | exact va_Nw.warmF hW h | exact va_Nw.warmM hW h | (simp at h2; done)
theorem jnest_same {w : Cond} (hw : w ∈ jnest) {s U : State} (hv : s.vm = U.vm) (h : va_Nw w s) : va_Nw w U := by
  have h2 := (List.mem_filter.mp hw).2
  cases w <;> first | exact va_Nw.same rfl hv h | (simp at h2; done)
theorem jenv_step {Γ : JG} {s U : State} (h : jenv Γ s) (hW : s.WarmedH U.vm) (hk : ∀ q : Nat, q < s.heap.size → ¬ jA Γ q → U.heap[q]? = s.heap[q]?) (hz : s.heap.size ≤ U.heap.size) : jenv Γ U := by
  obtain ⟨h1, h2, ⟨h3, h4⟩, ⟨h5, h6⟩, ⟨h7, h8, h9, h10⟩, ⟨h11, h12⟩, h13⟩ := h
  have hv := hW.alike
  exact ⟨va_K.moved hv h1, fun w hw => jnest_warm hw hW (h2 w hw), ⟨va_Z.moved hv (h3.kept hk), va_T.moved hv (h4.kept hk)⟩, ⟨va_Z.moved hv (h5.kept hk), va_Zq.moved hv (h6.kept hk)⟩, ⟨vk_S.moved hv (h7.kept hk), h8.warm hW, h9.warm hW, h10.warm hW⟩, ⟨va_AO.moved hv h11, va_AO.moved hv h12⟩, Nat.le_trans h13 hz⟩
theorem jenv_same {Γ : JG} {s U : State} (h : jenv Γ s) (hv : s.vm = U.vm) (hh : U.heap = s.heap) : jenv Γ U := by
  obtain ⟨h1, h2, ⟨h3, h4⟩, ⟨h5, h6⟩, ⟨h7, h8, h9, h10⟩, ⟨h11, h12⟩, h13⟩ := h
  have hva : s.vm.Alike U.vm := by rw [hv]; exact Vm.Alike.refl _
  unfold jenv
  rw [hh]
  exact ⟨va_K.moved hva h1, fun w hw => jnest_same hw hv (h2 w hw), ⟨va_Z.moved hva h3, va_T.moved hva h4⟩, ⟨va_Z.moved hva h5, va_Zq.moved hva h6⟩, ⟨vk_S.moved hva h7, h8.same hv.symm, h9.same hv.symm, h10.same hv.symm⟩, ⟨va_AO.moved hva h11, va_AO.moved hva h12⟩, h13⟩
/-- the cells, as the kit's list -/
def jws (ad : Nat → Nat) (N : Nat) (E : Nat → va_E) : va_W := (List.range N).map (fun i => (ad i, E i))
theorem jws_get {ad : Nat → Nat} {N : Nat} {E : Nat → va_E} {i : Nat} (h : i < N) : (jws ad N E)[i]? = some (ad i, E i) := by
  simp [jws, h]
theorem jws_set {ad : Nat → Nat} {N : Nat} {E : Nat → va_E} {k : Nat} (hk : k < N) (e : va_E) : (jws ad N E).set k (ad k, e) = jws ad N (va_up E k e) := by
  apply List.ext_getElem?
  intro i
  by_cases hi : i = k
  · subst hi
    rw [List.getElem?_set_self (by simp [jws, hk]), jws_get hk]
    simp [va_up]
  · rw [List.getElem?_set_ne (Ne.symm hi)]
    by_cases hN : i < N
    · rw [jws_get hN, jws_get hN]
      simp [va_up, hi]
    · rw [List.getElem?_eq_none (by simp [jws]; omega), List.getElem?_eq_none (by simp [jws]; omega)]
theorem jws_push {ad : Nat → Nat} {N : Nat} {E : Nat → va_E} (q : Nat) (e : va_E) : jws ad N E ++ [(q, e)] = jws (va_up ad N q) (N + 1) (va_up E N e) := by
  unfold jws
  rw [List.range_succ, List.map_append]
  congr 1
  · apply List.map_congr_left
    intro i hi
    have hne : i ≠ N := Nat.ne_of_lt (List.mem_range.mp hi)
    simp [va_up, hne]
  · simp [va_up]
def jw (Γ : JG) (ad : Nat → Nat) (N : Nat) (E : Nat → va_E) (H : Heap) : Prop := va_P Γ.2.1 vwCl (jws ad N E) H ∧ va_D (jA Γ) (jws ad N E)
/-- the locals, by their places -/
def lqa : Nat → List (Option Value) → List (Nat × Value)
  | _, [] => []
  | i, none :: r => lqa (i + 1) r
  | i, some v :: r => (i, v) :: lqa (i + 1) r
theorem lqa_mem : ∀ (L : List (Option Value)) (k i : Nat) (v : Value), (i, v) ∈ lqa k L ↔ (k ≤ i ∧ L[i - k]? = some (some v))
  | [], k, i, v => by simp [lqa]
  | none :: r, k, i, v => by
    rw [lqa, lqa_mem r (k + 1) i v]
    constructor
    · rintro ⟨h1, h2⟩
      refine ⟨by omega, ?_⟩
      rw [show i - k = (i - (k + 1)) + 1 by omega, List.getElem?_cons_succ]
      exact h2
    · rintro ⟨h1, h2⟩
      by_cases hk : i = k
      · subst hk
        simp at h2
      · refine ⟨by omega, ?_⟩
        rw [show i - k = (i - (k + 1)) + 1 by omega, List.getElem?_cons_succ] at h2
        exact h2
  | some w :: r, k, i, v => by
    rw [lqa, List.mem_cons, lqa_mem r (k + 1) i v]
    constructor
    · rintro (h | ⟨h1, h2⟩)
      · cases h
        simp
      · refine ⟨by omega, ?_⟩
        rw [show i - k = (i - (k + 1)) + 1 by omega, List.getElem?_cons_succ]
        exact h2
    · rintro ⟨h1, h2⟩
      by_cases hk : i = k
      · subst hk
        simp at h2
        subst h2
        exact Or.inl rfl
      · refine Or.inr ⟨by omega, ?_⟩
        rw [show i - k = (i - (k + 1)) + 1 by omega, List.getElem?_cons_succ] at h2
        exact h2
def lq (ls : Array Slot) (nL : Nat) (L : List (Option Value)) : Prop := lv_has ls nL (lqa 0 L)
theorem lq_at {ls : Array Slot} {nL : Nat} {L : List (Option Value)} (h : lq ls nL L) {i : Nat} {v : Value} (hv : L[i]? = some (some v)) : ls[i]? = some (.val v) := h.2.2 (i, v) ((lqa_mem L 0 i v).mpr ⟨Nat.zero_le _, hv⟩)
/-- the slot ahead of a place holds no value of two slots -/
def lqc (L : List (Option Value)) (i : Nat) : Bool := match L[i - 1]? with
  | some (some v) => decide (v.category = 1)
  | _ => true
theorem lq_set1 {ls : Array Slot} {nL : Nat} {L : List (Option Value)} {i : Nat} {v : Value} (hc : lqc L i = true) (h : lv_has ls nL ((i, v) :: (lqa 0 L).filter (fun q => !(q.1 == i) && !(q.1 + 1 == i && q.2.category == 2)))) : lq ls nL (L.set i (some v)) := by
  refine ⟨h.1, h.2.1, fun q hq => h.2.2 q ?_⟩
  obtain ⟨j, w⟩ := q
  obtain ⟨-, h2⟩ := (lqa_mem _ 0 j w).mp hq
  rw [Nat.sub_zero] at h2
  by_cases hj : j = i
  · subst hj
    have hl : j < L.length := by
      have := (List.getElem?_eq_some_iff.mp h2).1
      simpa using this
    rw [List.getElem?_set_self hl] at h2
    cases h2
    exact List.mem_cons_self
  · rw [List.getElem?_set_ne (Ne.symm hj)] at h2
    refine List.mem_cons_of_mem _ (List.mem_filter.mpr ⟨(lqa_mem L 0 j w).mpr ⟨Nat.zero_le _, h2⟩, ?_⟩)
    by_cases hj2 : j + 1 = i
    · have e : i - 1 = j := by omega
      rw [lqc, e, h2] at hc
      have hc' : w.category = 1 := by simpa using hc
      simp [hj, hc']
    · simp [hj, hj2]
theorem lq_set2 {ls : Array Slot} {nL : Nat} {L : List (Option Value)} {i : Nat} {v : Value} (hc : lqc L i = true) (h : lv_has ls nL ((i, v) :: (lqa 0 L).filter (fun q => !(q.1 == i) && (!(q.1 == i + 1) && !(q.1 + 1 == i && q.2.category == 2))))) : lq ls nL ((L.set i (some v)).set (i + 1) none) := by
  refine ⟨h.1, h.2.1, fun q hq => h.2.2 q ?_⟩
  obtain ⟨j, w⟩ := q
  obtain ⟨-, h2⟩ := (lqa_mem _ 0 j w).mp hq
  rw [Nat.sub_zero] at h2
  by_cases hj1 : j = i + 1
  · subst hj1
    by_cases hl : i + 1 < (L.set i (some v)).length
    · rw [List.getElem?_set_self hl] at h2
      cases h2
    · rw [List.getElem?_eq_none (by simpa using hl)] at h2
      cases h2
  rw [List.getElem?_set_ne (Ne.symm hj1)] at h2
  by_cases hj : j = i
  · subst hj
    have hl : j < L.length := by
      have := (List.getElem?_eq_some_iff.mp h2).1
      simpa using this
    rw [List.getElem?_set_self hl] at h2
    cases h2
    exact List.mem_cons_self
  · rw [List.getElem?_set_ne (Ne.symm hj)] at h2
    refine List.mem_cons_of_mem _ (List.mem_filter.mpr ⟨(lqa_mem L 0 j w).mpr ⟨Nat.zero_le _, h2⟩, ?_⟩)
    by_cases hj2 : j + 1 = i
    · have e : i - 1 = j := by omega
      rw [lqc, e, h2] at hc
      have hc' : w.category = 1 := by simpa using hc
      simp [hj, hj1, hc']
    · simp [hj, hj1, hj2]
