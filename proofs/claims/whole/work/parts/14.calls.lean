/-! more of the heap, what is made, calls -/
section JMore
variable {l : Launch} {Γ : JG} {Ω : JO} {nL : Nat} {ad : Nat → Nat} {N k n : Nat} {E : Nat → va_E} {pc q : Nat} {L : List (Option Value)} {st : List Value} {own : String} {cc : ByteArray} {fr rc rs lo : Nat}
theorem vp_narZ {b : Int} (h : b = 0 ∨ b = 1) : vp_nar .boolean (jI b) = jI b := by
  rcases h with rfl | rfl <;> rfl
theorem J_zast (X : JX Γ Ω own cc nL fr rc rs lo) {i M : Nat} {f : Int → Int} {z v : Int} (hd : decode cc pc = .ok (.bastore, 1)) (he : E i = aZ Γ M f) (hi : i < N) (hz : 0 ≤ z ∧ z < (M : Int)) (hM : (M : Int) < 2147483648) (hv : v = 0 ∨ v = 1) (hq : pc + 1 = q) (kk : ∀ E' : Nat → va_E, E' i = aZ Γ M (iu f z v) → (∀ j, j ≠ i → E' j = E j) → J l Γ Ω nL ad N k n E' q L st) : J l Γ Ω nL ad N k n E pc L (.int (jI v) :: .int (jI z) :: .ref (ad i) :: st) := by
  subst hq
  intro H locs ls hl hw hS
  refine va_zast X.1 X.2.1 X.2.2.2.2.2.1.1 hw.1 hw.2 hS i 1 (jat hi he) rfl (jI_in hz hM) hd (fun H1 locs1 p1 d1 s1 => ?_)
  rw [vp_narZ hv, jI_clamp (by omega), iu_upd hz.1] at p1 d1
  exact kk _ jup_self jup_ne H1 locs1 ls hl (jset hi p1 d1) s1
/-- the class of the elements of an array of references -/
def jRC (c : Nat) (ci : Nat) (C : String) : Prop := (c = 2 ∧ ci = 3 ∧ C = RX3) ∨ (c = 3 ∧ ci = 4 ∧ C = RX4)
theorem J_aald (X : JX Γ Ω own cc nL fr rc rs lo) {i M c a : Nat} {f : Nat → Option Nat} {z : Int} (hd : decode cc pc = .ok (.aaload, 1)) (hc : c = 2 ∨ c = 3) (he : E i = aR Γ c M f) (hi : i < N) (hz : 0 ≤ z ∧ z < (M : Int)) (hM : (M : Int) < 2147483648) (hv : f z.toNat = some a) (hq : pc + 1 = q) (kk : J l Γ Ω nL ad N k n E q L (.ref a :: st)) : J l Γ Ω nL ad N k n E pc L (.int (jI z) :: .ref (ad i) :: st) := by
  subst hq
  intro H locs ls hl hw hS
  rcases hc with rfl | rfl
  · refine va_aldq X.1 X.2.1 X.2.2.2.2.2.1.1 hw.1 i 2 (jat hi he) rfl (jI_in hz hM) hd ?_
    rw [jI_clamp (by omega), hv]
    exact kk H locs ls hl hw hS
  · refine va_aldq X.1 X.2.1 X.2.2.2.2.2.1.1 hw.1 i 3 (jat hi he) rfl (jI_in hz hM) hd ?_
    rw [jI_clamp (by omega), hv]
    exact kk H locs ls hl hw hS
theorem J_aast (X : JX Γ Ω own cc nL fr rc rs lo) {i j M c ci : Nat} {C : String} {T : u_T} {M' : Nat} {fs : List Value} {f : Nat → Option Nat} {z : Int} (hd : decode cc pc = .ok (.aastore, 1)) (hc : c = 2 ∨ c = 3) (he : E i = aR Γ c M f) (hi : i < N) (hej : E j = .inr (ci, fs)) (hj : j < N) (hcl : vwCl[ci]? = some (C, T, M')) (hC : (jtys Γ)[c]? = some (Γ.2.2.1 c, .object C)) (hz : 0 ≤ z ∧ z < (M : Int)) (hM : (M : Int) < 2147483648) (hq : pc + 1 = q) (kk : ∀ E' : Nat → va_E, E' i = aR Γ c M (va_up f z.toNat (some (ad j))) → (∀ j, j ≠ i → E' j = E j) → J l Γ Ω nL ad N k n E' q L st) : J l Γ Ω nL ad N k n E pc L (.ref (ad j) :: .int (jI z) :: .ref (ad i) :: st) := by
  subst hq
  intro H locs ls hl hw hS
  refine va_astq X.1 X.2.1 X.2.2.2.2.2.1.1 hw.1 hw.2 hS i c j ci (jat hi he) hC (jat hj hej) hcl (jI_in hz hM) hd (fun H1 locs1 p1 d1 s1 => ?_)
  rw [jI_clamp (by omega)] at p1 d1
  exact kk _ jup_self jup_ne H1 locs1 ls hl (jset hi p1 d1) s1
theorem J_objInit (X : JX Γ Ω own cc nL fr rc rs lo) {idx a : Nat} (hd : decode cc pc = .ok (.invokespecial idx, 3)) (h1 : Cond.methodLink own idx objectInit ∈ tw) (h2 : Cond.instanceMethod objectInit ∈ tw) (h3 : Cond.code objectInit ⟨#[0xb1]⟩ 1 none ∈ tw) (hf : 1 ≤ fr) (hlo : (st.map fun v => v.category).sum + 12 ≤ lo) (hq : pc + 3 = q) (kk : J l Γ Ω nL ad N k n E q L st) : J l Γ Ω nL ad N k n E pc L (.ref a :: st) := by
  subst hq
  intro H locs ls hl hw hS
  obtain ⟨hx, hb, hml, hown, hts, henv, hR⟩ := X
  exact W.objInit hx hb hown (hts _ h1) (hts _ h2) (hts _ h3) rfl (by rw [hml]; exact hl.1) rfl hd (by rw [hR]; exact hf) (by rw [hR]; show 2 * 0 + _ + 12 ≤ lo; omega) (kk H locs ls hl hw hS)
theorem jw_push {H H1 : Heap} {e : va_E} (hw : jw Γ ad N E H) (o1 : ∀ q, q < H.size → H1[q]? = H[q]?) (ha : ad N = H.size) (hA : jA Γ (ad N)) (he : va_at Γ.2.1 vwCl (ad N, e) H1) : jw Γ ad (N + 1) (va_up E N e) H1 := by
  have e1 : jws ad (N + 1) (va_up E N e) = jws ad N E ++ [(ad N, e)] := by
    rw [jws_push]
    congr 1
    funext j
    by_cases h : j = N
    · subst h; simp [va_up]
    · simp [va_up, h]
  refine ⟨?_, ?_⟩
  · rw [e1]
    refine (hw.1.kept (fun k x hx => o1 x.1 ((hw.1 k x hx).lt))).app (fun k x hx => ?_)
    have hz : k < 1 := (List.getElem?_eq_some_iff.mp hx).1
    rw [show k = 0 by omega] at hx
    cases hx
    exact he
  · rw [e1]
    exact hw.2.push hw.1 ha hA
/-- the heap's size, by the cells that were made -/
theorem jsize {N0 : Nat} {H : Heap} {locs : List Loc} {T : State} (hT : T.heap = H) (X0 : Stand Ω.1 l Ω.2.1 Ω.2.2.1 Ω.2.2.2.1 Ω.2.2.2.2.1 Ω.2.2.2.2.2.1 Ω.2.2.2.2.2.2.1 Ω.2.2.2.2.2.2.2.1 Ω.2.2.2.2.2.2.2.2.1 T locs k n) (hS : va_S (jA Γ) Ω.2.2.2.1.heap H locs) (hw : jw Γ ad N E H) (had : ∀ j, N0 ≤ j → ad j = Ω.2.2.2.1.heap.size + (j - N0)) (hN : N = N0 + k) : H.size = Ω.2.2.2.1.heap.size + k := by
  have h1 := X0.heapSize
  rw [hT] at h1
  have h2 : Ω.2.2.2.1.heap.size + k ≤ H.size := by
    cases k with
    | zero => exact hS.1
    | succ k' =>
      have h3 := (hw.1 (N - 1) _ (jws_get (by omega))).lt
      have h4 := had (N - 1) (by omega)
      have h5 : ad (N - 1) < H.size := h3
      omega
  omega
theorem W_size {p : Program} {e : Env} {R : Room} {s : State} {m : MethodId} {args : Array Value} {below : List Frame} {meth : Method} {c : Code} {H : Heap} {locs : List Loc} {cells slots z : Nat} {Q : State → Prop} {g : JFrame} (h : ∀ T : State, T.heap = H → Stand p l e R s m args below meth c T locs cells slots → H.size = z) (kk : H.size = z → W p l e R s m args below meth c H locs cells slots Q g) : W p l e R s m args below meth c H locs cells slots Q g := fun T hT X => kk (h T hT X) T hT X
theorem J_new (X : JX Γ Ω own cc nL fr rc rs lo) {idx ci M N0 : Nat} {C : String} {T : u_T} (ty : Nat → FieldType) (fs : List Value) (hd : decode cc pc = .ok (.new idx, 3)) (hcl : Cond.classLink own idx C ∈ tw ∧ Cond.instantiable C M ∈ tw ∧ Cond.initialized C ∈ tw) (hj : jcl ci C T M) (hty : ∀ k, k < M → parseFieldDescriptor (T k).2.2.1 = some (ty k)) (hfs : ∀ j, j < M → defaultValue (ty j) = vp_V fs j) (hrc : k + 1 ≤ rc) (hrs : n + M ≤ rs) (had : ∀ j, N0 ≤ j → ad j = Ω.2.2.2.1.heap.size + (j - N0)) (hN : N = N0 + k) (hq : pc + 3 = q)
    (kk : ∀ E' : Nat → va_E, E' N = .inr (ci, fs) → (∀ j, j ≠ N → E' j = E j) → J l Γ Ω nL ad (N + 1) (k + 1) (n + M) E' q L (.ref (ad N) :: st)) : J l Γ Ω nL ad N k n E pc L st := by
  subst hq
  intro H locs ls hl hw hS
  obtain ⟨hx, hb, hml, hown, hts, henv, hR⟩ := X
  obtain ⟨hc, hin, -, -⟩ := hj
  have hKn := henv.1.1 ci _ hc
  refine W_size (fun T0 hT X0 => jsize hT X0 hS hw had hN) (fun hsz => ?_)
  have hadN : ad N = H.size := by rw [hsz, had N (by omega)]; omega
  refine W.newcK hx hb hown (hts _ hcl.1) (hts _ hcl.2.1) (hts _ hcl.2.2) rfl hd (by rw [hR]; exact hrc) (by rw [hR]; exact hrs) hKn.2.1 rfl (fun H1 kC hkC e1 z1 o1 => ?_)
  rw [← hadN] at e1 ⊢
  refine kk _ jup_self jup_ne H1 locs ls hl (jw_push hw o1 hadN ?_ ⟨_, hc, (u_born ty hts hin hKn hkC e1 hty).to hfs⟩) ⟨Nat.le_trans hS.1 (by omega), fun x h1 h2 => (o1 x (Nat.lt_of_lt_of_le h1 hS.1)).trans (hS.2.1 x h1 h2), hS.2.2⟩
  show Γ.1 ≤ ad N
  have := henv.2.2.2.2.2.2
  omega
theorem jarr (henv : jenv Γ Ω.2.2.2.1) {c : Nat} {cA : ClassId} {ty : FieldType} (hc : (jtys Γ)[c]? = some (Γ.2.2.1 c, ty)) (hty : ty = .int ∨ ty = .boolean) (h : Ω.2.2.2.1.vm.findClass ("[" ++ ty.toString) = some cA) : cA = Γ.2.2.1 c := by
  have h1 := (henv.1.2 c _ hc).2
  rcases hty with rfl | rfl <;> exact Option.some.inj (h.symm.trans h1)
theorem J_newI (X : JX Γ Ω own cc nL fr rc rs lo) {N0 : Nat} {z : Int} (M : Nat) (hd : decode cc pc = .ok (.newarray .int, 2)) (hw0 : Cond.arrayClass .int ∈ tw) (hz : z = (M : Int)) (hM : M ≤ 100000) (hrc : k + 1 ≤ rc) (hrs : n + M ≤ rs) (had : ∀ j, N0 ≤ j → ad j = Ω.2.2.2.1.heap.size + (j - N0)) (hN : N = N0 + k) (hq : pc + 2 = q)
    (kk : ∀ E' : Nat → va_E, E' N = aI Γ M (fun _ => 0) → (∀ j, j ≠ N → E' j = E j) → J l Γ Ω nL ad (N + 1) (k + 1) (n + M) E' q L (.ref (ad N) :: st)) : J l Γ Ω nL ad N k n E pc L (.int (jI z) :: st) := by
  subst hq; subst hz
  intro H locs ls hl hw hS
  obtain ⟨hx, hb, hml, hown, hts, henv, hR⟩ := X
  refine W_size (fun T0 hT X0 => jsize hT X0 hS hw had hN) (fun hsz => ?_)
  have hadN : ad N = H.size := by rw [hsz, had N (by omega)]; omega
  refine va_newaK (atype := .int) (N := M) hx hb (hts _ hw0) rfl hd rfl ?_ ?_ ?_ (by rw [hR]; exact hrc) (by rw [hR]; exact hrs) rfl (fun H1 cA e1 z1 o1 hAr hNm => ?_)
  · rw [← jI_0, jI_lt (by omega) (by omega)]; omega
  · rw [jI_clamp (by omega)]; omega
  · show M * 4 ≤ 536870912; omega
  · have hcA := jarr henv (c := 0) rfl (Or.inl rfl) hNm
    rw [← hadN] at e1 ⊢
    rw [hcA] at e1
    refine kk _ jup_self jup_ne H1 locs ls hl (jw_push hw o1 hadN ?_ ?_) ⟨Nat.le_trans hS.1 (by omega), fun x h1 h2 => (o1 x (Nat.lt_of_lt_of_le h1 hS.1)).trans (hS.2.1 x h1 h2), hS.2.2⟩
    · show Γ.1 ≤ ad N
      have := henv.2.2.2.2.2.2
      omega
    · exact e1
theorem J_newZ (X : JX Γ Ω own cc nL fr rc rs lo) {N0 : Nat} {z : Int} (M : Nat) (hd : decode cc pc = .ok (.newarray .boolean, 2)) (hw0 : Cond.arrayClass .boolean ∈ tw) (hz : z = (M : Int)) (hM : M ≤ 100000) (hrc : k + 1 ≤ rc) (hrs : n + M ≤ rs) (had : ∀ j, N0 ≤ j → ad j = Ω.2.2.2.1.heap.size + (j - N0)) (hN : N = N0 + k) (hq : pc + 2 = q)
    (kk : ∀ E' : Nat → va_E, E' N = aZ Γ M (fun _ => 0) → (∀ j, j ≠ N → E' j = E j) → J l Γ Ω nL ad (N + 1) (k + 1) (n + M) E' q L (.ref (ad N) :: st)) : J l Γ Ω nL ad N k n E pc L (.int (jI z) :: st) := by
  subst hq; subst hz
  intro H locs ls hl hw hS
  obtain ⟨hx, hb, hml, hown, hts, henv, hR⟩ := X
  refine W_size (fun T0 hT X0 => jsize hT X0 hS hw had hN) (fun hsz => ?_)
  have hadN : ad N = H.size := by rw [hsz, had N (by omega)]; omega
  refine va_newaK (atype := .boolean) (N := M) hx hb (hts _ hw0) rfl hd rfl ?_ ?_ ?_ (by rw [hR]; exact hrc) (by rw [hR]; exact hrs) rfl (fun H1 cA e1 z1 o1 hAr hNm => ?_)
  · rw [← jI_0, jI_lt (by omega) (by omega)]; omega
  · rw [jI_clamp (by omega)]; omega
  · show M * 1 ≤ 536870912; omega
  · have hcA := jarr henv (c := 1) rfl (Or.inr rfl) hNm
    rw [← hadN] at e1 ⊢
    rw [hcA] at e1
    refine kk _ jup_self jup_ne H1 locs ls hl (jw_push hw o1 hadN ?_ ?_) ⟨Nat.le_trans hS.1 (by omega), fun x h1 h2 => (o1 x (Nat.lt_of_lt_of_le h1 hS.1)).trans (hS.2.1 x h1 h2), hS.2.2⟩
    · show Γ.1 ≤ ad N
      have := henv.2.2.2.2.2.2
      omega
    · exact e1
theorem J_anew (X : JX Γ Ω own cc nL fr rc rs lo) {N0 idx : Nat} {z : Int} {C : String} (c M : Nat) (hd : decode cc pc = .ok (.anewarray idx, 3)) (hlk : Cond.classLink own idx C ∈ tw) (hC : (c = 2 ∧ C = RX3) ∨ (c = 3 ∧ C = RX4)) (hz : z = (M : Int)) (hM : M ≤ 100000) (hrc : k + 1 ≤ rc) (hrs : n + M ≤ rs) (had : ∀ j, N0 ≤ j → ad j = Ω.2.2.2.1.heap.size + (j - N0)) (hN : N = N0 + k) (hq : pc + 3 = q)
    (kk : ∀ E' : Nat → va_E, E' N = aR Γ c M (fun _ => none) → (∀ j, j ≠ N → E' j = E j) → J l Γ Ω nL ad (N + 1) (k + 1) (n + M) E' q L (.ref (ad N) :: st)) : J l Γ Ω nL ad N k n E pc L (.int (jI z) :: st) := by
  subst hq; subst hz
  intro H locs ls hl hw hS
  obtain ⟨hx, hb, hml, hown, hts, henv, hR⟩ := X
  have hover : (Cond.arrayOver (.object C)).before Ω.2.2.2.2.2.1 Ω.2.2.2.1 = true := by
    rcases hC with ⟨-, rfl⟩ | ⟨-, rfl⟩
    · exact va_AO.use henv.2.2.2.2.2.1.1
    · exact va_AO.use henv.2.2.2.2.2.1.2
  have hcA : ∀ cA : ClassId, Ω.2.2.2.1.vm.findClass ("[" ++ (FieldType.object C).toString) = some cA → cA = Γ.2.2.1 c := by
    intro cA h
    rcases hC with ⟨rfl, rfl⟩ | ⟨rfl, rfl⟩
    · obtain ⟨-, -, -, -, -, h1⟩ := (henv.1.2 2 _ rfl).2
      exact Option.some.inj (h.symm.trans h1)
    · obtain ⟨-, -, -, -, -, h1⟩ := (henv.1.2 3 _ rfl).2
      exact Option.some.inj (h.symm.trans h1)
  refine W_size (fun T0 hT X0 => jsize hT X0 hS hw had hN) (fun hsz => ?_)
  have hadN : ad N = H.size := by rw [hsz, had N (by omega)]; omega
  have hcl : (jI (M : Int)).toNatClampNeg = M := by rw [jI_clamp (by omega)]; omega
  refine W.anew hx hb hown (hts _ hlk) hover rfl hd rfl ?_ ?_ (by rw [hR]; exact hrc) (by rw [hR, hcl]; exact hrs) (fun cA kA comp f1 f2 f3 f4 => ?_)
  · rw [← jI_0, jI_lt (by omega) (by omega)]; omega
  · rw [hcl]; omega
  · rw [hcl]
    generalize hH1 : H.push ({ cls := cA, slots := Array.replicate M .null, vm := .none } : Cell) = H1
    have z1 : H1.size = H.size + 1 := by rw [← hH1, Array.size_push]
    have e1 : H1[H.size]? = some (arrV cA M (fun _ => .null)) := by rw [← hH1, Array.getElem?_push_size, ← arrV_new]
    have o1 : ∀ q : Nat, q < H.size → H1[q]? = H[q]? := fun q hq => by rw [← hH1, Array.getElem?_push, if_neg (Nat.ne_of_lt hq)]
    rw [← hadN, hcA cA f1] at e1
    have kq := kk _ jup_self jup_ne H1 locs ls hl (jw_push hw o1 hadN (by
      show Γ.1 ≤ ad N
      have := henv.2.2.2.2.2.2
      omega) e1) ⟨Nat.le_trans hS.1 (by omega), fun x h1 h2 => (o1 x (Nat.lt_of_lt_of_le h1 hS.1)).trans (hS.2.1 x h1 h2), hS.2.2⟩
    rw [hadN] at kq
    exact kq
/-- n places of f from sp on, laid into g from dp on -/
abbrev icp (f g : Int → Int) (sp dp m : Int) : Int → Int := fun j => if dp ≤ j ∧ j < dp + m then f (sp + (j - dp)) else g j
theorem icp_cpy {f g : Int → Int} {sp dp m : Int} (h1 : 0 ≤ sp) (h2 : 0 ≤ dp) (h3 : 0 ≤ m) : va_cpy (fun j : Nat => jI (f (j : Int))) (fun j : Nat => jI (g (j : Int))) sp.toNat dp.toNat m.toNat = fun j : Nat => jI (icp f g sp dp m (j : Int)) := by
  funext j
  simp only [va_cpy, icp]
  by_cases h : dp ≤ (j : Int) ∧ (j : Int) < dp + m
  · rw [if_pos h, if_pos (by omega)]
    have : ((sp.toNat + (j - dp.toNat) : Nat) : Int) = sp + ((j : Int) - dp) := by omega
    rw [this]
  · rw [if_neg h, if_neg (by omega)]
theorem J_copy (X : JX Γ Ω own cc nL fr rc rs lo) {idx i j M M' : Nat} {f g : Int → Int} {sp dp m : Int} (hd : decode cc pc = .ok (.invokestatic idx, 3)) (hlk : Cond.methodLink own idx arraycopyName ∈ tw) (hwd : Cond.native arraycopyName ∈ tw ∧ Cond.static arraycopyName ∈ tw ∧ Cond.initialized "java/lang/System" ∈ tw) (hi : E i = aI Γ M f) (hiN : i < N) (hj : E j = aI Γ M' g) (hjN : j < N) (hs : 0 ≤ sp ∧ sp + m ≤ (M : Int)) (hdp : 0 ≤ dp ∧ dp + m ≤ (M' : Int)) (hm : 0 ≤ m) (hM : (M : Int) < 2147483648 ∧ (M' : Int) < 2147483648) (hf : 1 ≤ fr) (hlo : (st.map fun v => v.category).sum + (nativeFrameWords "java/lang/System" "arraycopy" 5 + 11) ≤ lo) (hq : pc + 3 = q)
    (kk : ∀ E' : Nat → va_E, E' j = aI Γ M' (icp f g sp dp m) → (∀ x, x ≠ j → E' x = E x) → J l Γ Ω nL ad N k n E' q L st) : J l Γ Ω nL ad N k n E pc L (.int (jI m) :: .int (jI dp) :: .ref (ad j) :: .int (jI sp) :: .ref (ad i) :: st) := by
  subst hq
  intro H locs ls hl hw hS
  obtain ⟨hx, hb, hml, hown, hts, henv, hR⟩ := X
  have nn : ∀ z : Int, 0 ≤ z → z < 2147483648 → ¬ jI z < 0 := fun z h0 h1 => by rw [← jI_0, jI_lt (by omega) (by omega)]; omega
  refine va_copyi hx hb (by rw [hml]; exact hl.1.symm) hown (hts _ hlk) (hts _ hwd.1) (hts _ hwd.2.1) (hts _ hwd.2.2) henv.1 hw.1 hw.2 hS i j 0 0 (jat hiN hi) (jat hjN hj) (ty := .int) rfl rfl rfl (nn sp (by omega) (by omega)) (nn dp (by omega) (by omega)) (nn m (by omega) (by omega)) ?_ ?_ (fun _ _ => rfl) (by rw [hR]; exact hf) (by rw [hR]; exact hlo) hd (fun H1 locs1 p1 d1 s1 => ?_)
  · rw [jI_clamp (by omega), jI_clamp (by omega)]; omega
  · rw [jI_clamp (by omega), jI_clamp (by omega)]; omega
  · rw [jI_clamp (by omega), jI_clamp (by omega), jI_clamp (by omega), icp_cpy (by omega) (by omega) (by omega)] at p1 d1
    exact kk _ jup_self jup_ne H1 locs1 ls hl (jset hjN p1 d1) s1
theorem J_max (X : JX Γ Ω own cc nL fr rc rs lo) {idx : Nat} {a b : Int} (hd : decode cc pc = .ok (.invokestatic idx, 3)) (hlk : Cond.methodLink own idx Lib.Math.max.name ∈ tw) (hwd : Cond.static Lib.Math.max.name ∈ tw ∧ Cond.initialized "java/lang/Math" ∈ tw ∧ Cond.code Lib.Math.max.name Lib.Math.max.code 2 (some .int) ∈ tw) (ha : -2147483648 ≤ a ∧ a < 2147483648) (hb0 : -2147483648 ≤ b ∧ b < 2147483648) (hf : 1 ≤ fr) (hlo : (st.map fun v => v.category).sum + 13 ≤ lo) (hk : k ≤ rc) (hn : n ≤ rs) (hq : pc + 3 = q) (kk : J l Γ Ω nL ad N k n E q L (.int (jI (if a < b then b else a)) :: st)) : J l Γ Ω nL ad N k n E pc L (.int (jI b) :: .int (jI a) :: st) := by
  subst hq
  intro H locs ls hl hw hS
  obtain ⟨hx, hb, hml, hown, hts, henv, hR⟩ := X
  refine va_mmax hx hb (by rw [hml]; exact hl.1.symm) hown (hts _ hlk) (hts _ hwd.1) (hts _ hwd.2.1) (hts _ hwd.2.2) (by rw [hR]; exact hf) (by rw [hR]; exact hlo) (by rw [hR]; exact hk) (by rw [hR]; exact hn) hd ?_
  have e : (if jI a < jI b then jI b else jI a) = jI (if a < b then b else a) := by
    by_cases h : a < b
    · rw [if_pos h, if_pos ((jI_lt ha hb0).mpr h)]
    · rw [if_neg h, if_neg (fun z => h ((jI_lt ha hb0).mp z))]
  rw [e]
  exact kk H locs ls hl hw hS
theorem J_min (X : JX Γ Ω own cc nL fr rc rs lo) {idx : Nat} {a b : Int} (hd : decode cc pc = .ok (.invokestatic idx, 3)) (hlk : Cond.methodLink own idx Lib.Math.min.name ∈ tw) (hwd : Cond.static Lib.Math.min.name ∈ tw ∧ Cond.initialized "java/lang/Math" ∈ tw ∧ Cond.code Lib.Math.min.name Lib.Math.min.code 2 (some .int) ∈ tw) (ha : -2147483648 ≤ a ∧ a < 2147483648) (hb0 : -2147483648 ≤ b ∧ b < 2147483648) (hf : 1 ≤ fr) (hlo : (st.map fun v => v.category).sum + 13 ≤ lo) (hk : k ≤ rc) (hn : n ≤ rs) (hq : pc + 3 = q) (kk : J l Γ Ω nL ad N k n E q L (.int (jI (if b < a then b else a)) :: st)) : J l Γ Ω nL ad N k n E pc L (.int (jI b) :: .int (jI a) :: st) := by
  subst hq
  intro H locs ls hl hw hS
  obtain ⟨hx, hb, hml, hown, hts, henv, hR⟩ := X
  refine va_mmin hx hb (by rw [hml]; exact hl.1.symm) hown (hts _ hlk) (hts _ hwd.1) (hts _ hwd.2.1) (hts _ hwd.2.2) (by rw [hR]; exact hf) (by rw [hR]; exact hlo) (by rw [hR]; exact hk) (by rw [hR]; exact hn) hd ?_
  have e : (if jI b < jI a then jI b else jI a) = jI (if b < a then b else a) := by
    by_cases h : b < a
    · rw [if_pos h, if_pos ((jI_lt hb0 ha).mpr h)]
    · rw [if_neg h, if_neg (fun z => h ((jI_lt hb0 ha).mp z))]
  rw [e]
  exact kk H locs ls hl hw hS
/-- the table of grown signs -/
theorem J_grown (X : JX Γ Ω RX9 cc nL fr rc rs lo) {idx : Nat} (hd : decode cc pc = .ok (.getstatic idx, 3)) (hlk : Cond.fieldLink RX9 idx RX9 "GROWN" "[C" ∈ tw) (hq : pc + 3 = q) (kk : J l Γ Ω nL ad N k n E q L (.ref Γ.2.2.2.1 :: st)) : J l Γ Ω nL ad N k n E pc L st := by
  subst hq
  intro H locs ls hl hw hS
  obtain ⟨hx, hb, hml, hown, hts, henv, hR⟩ := X
  exact va_gets hx hb henv.2.2.1.1 hS hown (hts _ hlk) (fun _ z => z) hd (kk H locs ls hl hw hS)
theorem J_grownAt (X : JX Γ Ω own cc nL fr rc rs lo) {z : Int} (hd : decode cc pc = .ok (.caload, 1)) (hz : 0 ≤ z ∧ z < 9) (hq : pc + 1 = q) (kk : J l Γ Ω nL ad N k n E q L (.int (jI (jgrown.getD z.toNat 0)) :: st)) : J l Γ Ω nL ad N k n E pc L (.int (jI z) :: .ref Γ.2.2.2.1 :: st) := by
  subst hq
  intro H locs ls hl hw hS
  obtain ⟨hx, hb, hml, hown, hts, henv, hR⟩ := X
  refine va_tc hx hb henv.2.2.1.2 hS (jI_in (n := 9) (by omega) (by decide)) (v := .int (jI (jgrown.getD z.toNat 0))) ?_ hd (kk H locs ls hl hw hS)
  rw [jI_clamp (by omega)]
end JMore
section JCalls
variable {l : Launch} {Γ : JG} {Ω : JO} {nL : Nat} {ad : Nat → Nat} {N k n : Nat} {E : Nat → va_E} {pc q : Nat} {L : List (Option Value)} {st rest : List Value} {own : String} {cc : ByteArray} {fr rc rs lo : Nat}
variable {y : MethodName} {cy : ByteArray} {nLy fry loy mc ms idx na : Nat} {ret : Option FieldType} {av : List Value} {post : Option Value → (Nat → va_E) → Prop}
/-- a call's way: any state that the numbers picture goes on behind the call -/
def JRun (l : Launch) (Γ : JG) (Ω : JO) (nL : Nat) (ad : Nat → Nat) (N k n : Nat) (E : Nat → va_E) (pc : Nat) (L : List (Option Value)) (st rest : List Value) (mc ms : Nat) (post : Option Value → (Nat → va_E) → Prop) : Prop :=
  ∀ (H : Heap) (locs : List Loc) (ls : Array Slot), lq ls nL L → jw Γ ad N E H → va_S (jA Γ) Ω.2.2.2.1.heap H locs → ∃ a : Array Value,
    va_Run Ω.1 l Ω.2.1 Ω.2.2.1 Ω.2.2.2.1 Ω.2.2.2.2.1 Ω.2.2.2.2.2.1 Ω.2.2.2.2.2.2.1 Ω.2.2.2.2.2.2.2.1 Ω.2.2.2.2.2.2.2.2.1 H locs k n mc ms (F0 Ω.2.2.2.2.1 pc ls st) rest (JC Γ ad (N + mc) post a) (jA Γ)
theorem J_call (r : JRun l Γ Ω nL ad N k n E pc L st rest mc ms post) (hq : pc + 3 = q) (kk : ∀ (rv : Option Value) (E' : Nat → va_E), post rv E' → J l Γ Ω nL ad (N + mc) (k + mc) (n + ms) E' q L (rv.toList ++ rest)) : J l Γ Ω nL ad N k n E pc L st := by
  subst hq
  intro H locs ls hl hw hS T hT X0
  obtain ⟨a, hr⟩ := r H locs ls hl hw hS
  obtain ⟨v, st₀, t, T', L1, h0, X', hL, e1, e2, ⟨⟨rv, E', hv, hp, hw'⟩, hz, hk⟩, step⟩ := hr T hT X0
  cases hv
  rw [h0] at hz hk
  obtain ⟨t2, a1, b1⟩ := kk _ E' hp T'.heap (locs ++ L1) ls hl (by rw [e1]; exact hw')
    ⟨Nat.le_trans hS.1 (by rw [e1]; exact hz), fun q h1 h2 => by rw [e1, hk q (Nat.lt_of_lt_of_le h1 hS.1) h2]; exact hS.2.1 q h1 h2, fun q hq => by
      rcases List.mem_append.mp hq with h | h
      · exact hS.2.2 q h
      · exact hL q h⟩ T' rfl X'
  exact ⟨t2, step t2 a1, b1⟩
/-- a method that a pool entry names: by its receiver's class, a constructor, a static one -/
def okB (y : MethodName) (cy : ByteArray) (nLy : Nat) (ret : Option FieldType) (na : Nat) : Prop := Cond.code y cy nLy ret ∈ tw ∧ Cond.initialized y.cls ∈ tw ∧ y.cls ≠ "java/lang/invoke/MethodHandle" ∧ y.cls ≠ "java/lang/invoke/VarHandle" ∧ (parseMethodDescriptor y.desc).map (fun d => d.parameters.length) = some na
def okV (own : String) (idx : Nat) (y : MethodName) (cy : ByteArray) (nLy : Nat) (ret : Option FieldType) (na : Nat) : Prop := okB y cy nLy ret na ∧ Cond.methodLink own idx y ∈ tw ∧ Cond.instanceMethod y ∈ tw ∧ Cond.selects y.cls y y ∈ tw
def okI (own : String) (idx : Nat) (y : MethodName) (cy : ByteArray) (nLy : Nat) (na : Nat) : Prop := okB y cy nLy none na ∧ (Cond.methodLink own idx y ∈ tw ∨ ∃ host, Cond.methodLinkNest own idx y host ∈ jnest) ∧ Cond.instanceMethod y ∈ tw ∧ y.name = "<init>"
def okS (own : String) (idx : Nat) (y : MethodName) (cy : ByteArray) (nLy : Nat) (ret : Option FieldType) (na : Nat) : Prop := okB y cy nLy ret na ∧ (Cond.methodLink own idx y ∈ tw ∨ ∃ host, Cond.methodLinkNest own idx y host ∈ jnest) ∧ Cond.static y ∈ tw
theorem jcallB {R : Room} {s : State} {args : Array Value} (ht : ∀ w ∈ tw, w.before args s = true) (hok : okB y cy nLy ret na) (hl : (Cond.methodLink own idx y).before args s = true) (hR : fry + 1 ≤ R.frames ∧ 8 + (nLy + 11) + loy ≤ R.locals) : CallB R s args own idx y cy nLy ret (.code y cy nLy ret :: tw) { frames := fry, cells := mc, slots := ms, locals := loy } mc ms na :=
  callB_of na ht (tw_in hok.1) rfl rfl rfl (ht _ hok.2.1) hl ⟨hok.2.2.1, hok.2.2.2.1, hok.2.2.2.2⟩ hR
theorem jcallN {R : Room} {s : State} {args : Array Value} {host : String} (ht : ∀ w ∈ tw, w.before args s = true) (hok : okB y cy nLy ret na) (hl : va_Nw (.methodLinkNest own idx y host) s) (hR : fry + 1 ≤ R.frames ∧ 8 + (nLy + 11) + loy ≤ R.locals) : va_CN R s args own idx y host cy nLy ret (.code y cy nLy ret :: tw) { frames := fry, cells := mc, slots := ms, locals := loy } mc ms na :=
  va_cnB na ht (tw_in hok.1) rfl rfl rfl hl (ht _ hok.2.1) ⟨hok.2.2.1, hok.2.2.2.1, hok.2.2.2.2⟩ hR
theorem jpre {H : Heap} {locs : List Loc} (henv : jenv Γ Ω.2.2.2.1) (hw : jw Γ ad N E H) (hS : va_S (jA Γ) Ω.2.2.2.1.heap H locs) : PreS Ω.2.2.2.1 H (va_Pc av (fun U => jenv Γ U ∧ jw Γ ad N E U.heap)) av :=
  ⟨fun _ U g mk h => ⟨h.1, jenv_same h.2.1 rfl rfl, h.2.2⟩, fun U hU hW => ⟨rfl, jenv_step henv hW (by rw [hU]; exact hS.2.1) (by rw [hU]; exact hS.1), by rw [hU]; exact hw⟩⟩
theorem jrV (X : JX Γ Ω own cc nL fr rc rs lo) {ci i M : Nat} {C : String} {T : u_T} {fs : List Value} {As : List Value} (hok : okV own idx y cy nLy ret na) (hd : decode cc pc = .ok (.invokevirtual idx, 3)) (hM : JM l Γ y cy nLy ret fry loy mc ms ad N E (.ref (ad i) :: As) post) (he : E i = .inr (ci, fs)) (hi : i < N) (hc : vwCl[ci]? = some (C, T, M)) (hC : y.cls = C) (hst : st = As.reverse ++ .ref (ad i) :: rest) (hna : As.length = na) (hsum : (rest.map fun v => v.category).sum ≤ 8) (hR : fry + 1 ≤ fr ∧ 8 + (nLy + 11) + loy ≤ lo ∧ k + mc ≤ rc ∧ n + ms ≤ rs) : JRun l Γ Ω nL ad N k n E pc L st rest mc ms post := by
  intro H locs ls hl hw hS
  obtain ⟨hx, hb, hml, hown, hts, henv, hRm⟩ := X
  obtain ⟨hok, h1, h2, h3⟩ := hok
  have hp := jpre (av := .ref (ad i) :: As) henv hw hS
  refine ⟨_, va_runV (As := As) (rest := rest) (C := y.cls) ⟨hx, hb, hml, hown, hts⟩ hM ⟨jcallB hts hok (hts _ h1) (by rw [hRm]; exact ⟨hR.1, hR.2.1⟩), hts _ h2, hts _ h3⟩ ⟨hp.1, ?_, hp.2⟩ rfl hna hl.1 hst (lv_room hsum) hd (by rw [hRm]; exact hR.2.2)⟩
  rw [hC]
  exact va_recv henv.1 hw.1 hc (jat hi he)
theorem jrS (X : JX Γ Ω own cc nL fr rc rs lo) (hok : okS own idx y cy nLy ret na) (hd : decode cc pc = .ok (.invokestatic idx, 3)) (hM : JM l Γ y cy nLy ret fry loy mc ms ad N E av post) (hst : st = av.reverse ++ rest) (hna : av.length = na) (hsum : (rest.map fun v => v.category).sum ≤ 8) (hR : fry + 1 ≤ fr ∧ 8 + (nLy + 11) + loy ≤ lo ∧ k + mc ≤ rc ∧ n + ms ≤ rs) : JRun l Γ Ω nL ad N k n E pc L st rest mc ms post := by
  intro H locs ls hl hw hS
  obtain ⟨hx, hb, hml, hown, hts, henv, hRm⟩ := X
  obtain ⟨hok, h1, h2⟩ := hok
  have hp := jpre (av := av) henv hw hS
  rcases h1 with h1 | ⟨host, h1⟩
  · exact ⟨_, va_runS (As := av) (rest := rest) ⟨hx, hb, hml, hown, hts⟩ hM ⟨jcallB hts hok (hts _ h1) (by rw [hRm]; exact ⟨hR.1, hR.2.1⟩), hts _ h2⟩ hp rfl hna hl.1 hst (lv_room hsum) hd (by rw [hRm]; exact hR.2.2)⟩
  · exact ⟨_, va_runSN (As := av) (rest := rest) ⟨hx, hb, hml, hown, hts⟩ hM ⟨jcallN hts hok (henv.2.1 _ h1) (by rw [hRm]; exact ⟨hR.1, hR.2.1⟩), hts _ h2, trivial⟩ hp rfl hna hl.1 hst (lv_room hsum) hd (by rw [hRm]; exact hR.2.2)⟩
/-- a constructor that makes cells -/
theorem jrI (X : JX Γ Ω own cc nL fr rc rs lo) {i N0 : Nat} {As : List Value} (hok : okI own idx y cy nLy na) (hd : decode cc pc = .ok (.invokespecial idx, 3)) (hM : JMA l Γ y cy nLy none fry loy mc ms ad N E (.ref (ad i) :: As) post) (had : ∀ j, N0 ≤ j → ad j = Ω.2.2.2.1.heap.size + (j - N0)) (hN : N = N0 + k) (hst : st = As.reverse ++ .ref (ad i) :: rest) (hna : As.length = na) (hsum : (rest.map fun v => v.category).sum ≤ 8) (hR : fry + 1 ≤ fr ∧ 8 + (nLy + 11) + loy ≤ lo ∧ k + mc ≤ rc ∧ n + ms ≤ rs) (hq : pc + 3 = q) (kk : ∀ (rv : Option Value) (E' : Nat → va_E), post rv E' → J l Γ Ω nL ad (N + mc) (k + mc) (n + ms) E' q L (rv.toList ++ rest)) : J l Γ Ω nL ad N k n E pc L st := by
  intro H locs ls hl hw hS T0 hT X0
  have hsz := jsize hT X0 hS hw had hN
  obtain ⟨hx, hb, hml, hown, hts, henv, hRm⟩ := X
  obtain ⟨hok, h1, h2, h3⟩ := hok
  have hp : PreS Ω.2.2.2.1 H (va_Pc (.ref (ad i) :: As) (fun U => jenv Γ U ∧ jw Γ ad N E U.heap ∧ ∀ j, N ≤ j → ad j = U.heap.size + (j - N))) (.ref (ad i) :: As) := by
    refine ⟨fun _ U g mk h => ⟨h.1, jenv_same h.2.1 rfl rfl, h.2.2⟩, fun U hU hW => ⟨rfl, jenv_step henv hW (by rw [hU]; exact hS.2.1) (by rw [hU]; exact hS.1), by rw [hU]; exact hw, fun j hj => ?_⟩⟩
    rw [hU, hsz, had j (by omega)]
    omega
  have hrun : ∃ a : Array Value, va_Run Ω.1 l Ω.2.1 Ω.2.2.1 Ω.2.2.2.1 Ω.2.2.2.2.1 Ω.2.2.2.2.2.1 Ω.2.2.2.2.2.2.1 Ω.2.2.2.2.2.2.2.1 Ω.2.2.2.2.2.2.2.2.1 H locs k n mc ms (F0 Ω.2.2.2.2.1 pc ls st) rest (JC Γ ad (N + mc) post a) (jA Γ) := by
    rcases h1 with h1 | ⟨host, h1⟩
    · exact ⟨_, va_runI (As := As) (rest := rest) ⟨hx, hb, hml, hown, hts⟩ hM ⟨jcallB hts hok (hts _ h1) (by rw [hRm]; exact ⟨hR.1, hR.2.1⟩), h3, hts _ h2⟩ hp rfl hna hl.1 hst (lv_room hsum) hd (by rw [hRm]; exact hR.2.2)⟩
    · exact ⟨_, va_runIN (As := As) (rest := rest) ⟨hx, hb, hml, hown, hts⟩ hM ⟨jcallN hts hok (henv.2.1 _ h1) (by rw [hRm]; exact ⟨hR.1, hR.2.1⟩), h3, hts _ h2⟩ hp rfl hna hl.1 hst (lv_room hsum) hd (by rw [hRm]; exact hR.2.2)⟩
  obtain ⟨a, hr⟩ := hrun
  obtain ⟨v, st₀, t, T', L1, h0, X', hL, e1, e2, ⟨⟨rv, E', hv, hp', hw'⟩, hz, hk⟩, step⟩ := hr T0 hT X0
  subst hq
  cases hv
  rw [h0] at hz hk
  obtain ⟨t2, a1, b1⟩ := kk _ E' hp' T'.heap (locs ++ L1) ls hl (by rw [e1]; exact hw')
    ⟨Nat.le_trans hS.1 (by rw [e1]; exact hz), fun q h1 h2 => by rw [e1, hk q (Nat.lt_of_lt_of_le h1 hS.1) h2]; exact hS.2.1 q h1 h2, fun q hq => by
      rcases List.mem_append.mp hq with h | h
      · exact hS.2.2 q h
      · exact hL q h⟩ T' rfl X'
  exact ⟨t2, step t2 a1, b1⟩
/-- what a method answers: a number and nothing changed; a number and a new world; nothing and a new world; a cell -/
def pP (v : Int) (E : Nat → va_E) : Option Value → (Nat → va_E) → Prop := fun rv E' => rv = some (.int (jI v)) ∧ E' = E
def pI (P : Int → (Nat → va_E) → Prop) : Option Value → (Nat → va_E) → Prop := fun rv E' => ∃ z : Int, rv = some (.int (jI z)) ∧ P z E'
def pV (P : (Nat → va_E) → Prop) : Option Value → (Nat → va_E) → Prop := fun rv E' => rv = none ∧ P E'
def pR (a : Nat) (P : (Nat → va_E) → Prop) : Option Value → (Nat → va_E) → Prop := fun rv E' => rv = some (.ref a) ∧ P E'
theorem J_callP {v : Int} (r : JRun l Γ Ω nL ad N k n E pc L st rest 0 0 (pP v E)) (hq : pc + 3 = q) (kk : J l Γ Ω nL ad N k n E q L (.int (jI v) :: rest)) : J l Γ Ω nL ad N k n E pc L st :=
  J_call r hq (fun rv E' h => by obtain ⟨rfl, rfl⟩ := h; exact kk)
theorem J_callI {P : Int → (Nat → va_E) → Prop} (r : JRun l Γ Ω nL ad N k n E pc L st rest 0 0 (pI P)) (hq : pc + 3 = q) (kk : ∀ (z : Int) (E' : Nat → va_E), P z E' → J l Γ Ω nL ad N k n E' q L (.int (jI z) :: rest)) : J l Γ Ω nL ad N k n E pc L st :=
  J_call r hq (fun rv E' h => by obtain ⟨z, rfl, h⟩ := h; exact kk z E' h)
theorem J_callV {P : (Nat → va_E) → Prop} (r : JRun l Γ Ω nL ad N k n E pc L st rest 0 0 (pV P)) (hq : pc + 3 = q) (kk : ∀ E' : Nat → va_E, P E' → J l Γ Ω nL ad N k n E' q L rest) : J l Γ Ω nL ad N k n E pc L st :=
  J_call r hq (fun rv E' h => by obtain ⟨rfl, h⟩ := h; exact kk E' h)
theorem J_callR {a : Nat} {P : (Nat → va_E) → Prop} (r : JRun l Γ Ω nL ad N k n E pc L st rest 0 0 (pR a P)) (hq : pc + 3 = q) (kk : ∀ E' : Nat → va_E, P E' → J l Γ Ω nL ad N k n E' q L (.ref a :: rest)) : J l Γ Ω nL ad N k n E pc L st :=
  J_call r hq (fun rv E' h => by obtain ⟨rfl, h⟩ := h; exact kk E' h)
end JCalls
