/-! the judgement: from any state that the numbers picture, the machine comes to Q -/
abbrev JO : Type := Program × Env × Room × State × MethodId × Array Value × List Frame × Method × Code × (State → Prop)
def J (l : Launch) (Γ : JG) (Ω : JO) (nL : Nat) (ad : Nat → Nat) (N k n : Nat) (E : Nat → va_E) (pc : Nat) (L : List (Option Value)) (st : List Value) : Prop :=
  ∀ (H : Heap) (locs : List Loc) (ls : Array Slot), lq ls nL L → jw Γ ad N E H → va_S (jA Γ) Ω.2.2.2.1.heap H locs →
    W Ω.1 l Ω.2.1 Ω.2.2.1 Ω.2.2.2.1 Ω.2.2.2.2.1 Ω.2.2.2.2.2.1 Ω.2.2.2.2.2.2.1 Ω.2.2.2.2.2.2.2.1 Ω.2.2.2.2.2.2.2.2.1 H locs k n Ω.2.2.2.2.2.2.2.2.2 (F0 Ω.2.2.2.2.1 pc ls st)
/-- what a method's surroundings are -/
def JX (Γ : JG) (Ω : JO) (own : String) (cc : ByteArray) (nL fr rc rs lo : Nat) : Prop :=
  Ω.1.tables.exec = Jvm.exec ∧ Ω.2.2.2.2.2.2.2.2.1.code = cc ∧ Ω.2.2.2.2.2.2.2.2.1.maxLocals = nL ∧ Ω.2.2.2.1.vm.findClass own = some Ω.2.2.2.2.1.cls ∧ (∀ w ∈ tw, w.before Ω.2.2.2.2.2.1 Ω.2.2.2.1 = true) ∧ jenv Γ Ω.2.2.2.1 ∧ Ω.2.2.1 = { frames := fr, cells := rc, slots := rs, locals := lo }
def JC (Γ : JG) (ad : Nat → Nat) (N : Nat) (post : Option Value → (Nat → va_E) → Prop) : Array Value → State → Outcome → State → Prop := fun _ st oc t =>
  (∃ (rv : Option Value) (E : Nat → va_E), oc = .returned rv ∧ post rv E ∧ jw Γ ad N E t.heap) ∧ va_F (jA Γ) st t
def JR (Γ : JG) (Ω : JO) (ret : Option FieldType) (mc ms : Nat) (ad : Nat → Nat) (N : Nat) (post : Option Value → (Nat → va_E) → Prop) : Prop :=
  Ω.2.2.2.2.2.2.2.2.2 = MQ Ω.2.2.2.2.2.2.1 (JC Γ ad N post) Ω.2.2.2.2.2.1 Ω.2.2.2.1 mc ms (jA Γ) ∧ Ω.2.2.2.2.2.2.2.1.sig.returnType = ret ∧ Ω.2.2.2.2.2.2.2.1.locks = false
/-- a method's contract -/
def JM (l : Launch) (Γ : JG) (y : MethodName) (cc : ByteArray) (nL : Nat) (ret : Option FieldType) (fr lo mc ms : Nat) (ad : Nat → Nat) (N : Nat) (E : Nat → va_E) (av : List Value) (post : Option Value → (Nat → va_E) → Prop) : Prop :=
  Met l y (.code y cc nL ret :: tw) { frames := fr, cells := mc, slots := ms, locals := lo } (va_Pc av (fun U => jenv Γ U ∧ jw Γ ad N E U.heap)) (JC Γ ad (N + mc) post) mc ms (jA Γ)
theorem JM_intro {l : Launch} {Γ : JG} {y : MethodName} {cc : ByteArray} {nL : Nat} {ret : Option FieldType} {fr lo mc ms : Nat} {ad : Nat → Nat} {N : Nat} {E : Nat → va_E} {av : List Value} {post : Option Value → (Nat → va_E) → Prop} {own : String}
    (L0 : List (Option Value)) (hy : plainName y.cls = true) (ho : y.cls = own) (hL : lqa 0 L0 = lv_args 0 av) (hn : (lg_sl av).length ≤ nL)
    (body : ∀ Ω : JO, JX Γ Ω own cc nL fr mc ms lo → JR Γ Ω ret mc ms ad (N + mc) post → (y.name = "<init>" → Ω.2.2.2.2.2.2.2.1.name = "<init>") → J l Γ Ω nL ad N 0 0 E 0 L0 []) : JM l Γ y cc nL ret fr lo mc ms ad N E av post := by
  refine Met.ofW (cc := cc) (maxL := nL) (ret := ret) hy rfl ?_
  intro p e s m args below meth c s₁ B hml hv
  obtain ⟨rfl, henv, hw⟩ := hv
  have hts := atoms_spec (ws := .code y cc nL ret :: tw) B.pre
  have hnm := name_of_methodNamed B.named B.method
  have hown : s.vm.findClass own = some m.cls := by rw [← ho]; exact findClass_of_methodNamed B.named
  have hb := body (p, e, { frames := fr, cells := mc, slots := ms, locals := lo }, s, m, av.toArray, below, meth, c, MQ below (JC Γ ad (N + mc) post) av.toArray s mc ms (jA Γ))
    ⟨B.exec, B.bytes, hml, hown, fun w hw => hts w (List.mem_cons_of_mem _ hw), henv, rfl⟩ ⟨rfl, B.returns, B.notSynchronized⟩ (fun h => hnm.1.trans h)
  rw [lg_entry_eq]
  have hl := lv_entry av (n := nL) hn
  rw [← hL] at hl
  exact hb s.heap [] _ hl hw va_S.rf
/-- .. of a method that makes cells: they get the next addresses -/
def JMA (l : Launch) (Γ : JG) (y : MethodName) (cc : ByteArray) (nL : Nat) (ret : Option FieldType) (fr lo mc ms : Nat) (ad : Nat → Nat) (N : Nat) (E : Nat → va_E) (av : List Value) (post : Option Value → (Nat → va_E) → Prop) : Prop :=
  Met l y (.code y cc nL ret :: tw) { frames := fr, cells := mc, slots := ms, locals := lo } (va_Pc av (fun U => jenv Γ U ∧ jw Γ ad N E U.heap ∧ ∀ j, N ≤ j → ad j = U.heap.size + (j - N))) (JC Γ ad (N + mc) post) mc ms (jA Γ)
theorem JMA_intro {l : Launch} {Γ : JG} {y : MethodName} {cc : ByteArray} {nL : Nat} {ret : Option FieldType} {fr lo mc ms : Nat} {ad : Nat → Nat} {N : Nat} {E : Nat → va_E} {av : List Value} {post : Option Value → (Nat → va_E) → Prop} {own : String}
    (L0 : List (Option Value)) (hy : plainName y.cls = true) (ho : y.cls = own) (hL : lqa 0 L0 = lv_args 0 av) (hn : (lg_sl av).length ≤ nL)
    (body : ∀ Ω : JO, JX Γ Ω own cc nL fr mc ms lo → JR Γ Ω ret mc ms ad (N + mc) post → (y.name = "<init>" → Ω.2.2.2.2.2.2.2.1.name = "<init>") → (∀ j, N ≤ j → ad j = Ω.2.2.2.1.heap.size + (j - N)) → J l Γ Ω nL ad N 0 0 E 0 L0 []) : JMA l Γ y cc nL ret fr lo mc ms ad N E av post := by
  refine Met.ofW (cc := cc) (maxL := nL) (ret := ret) hy rfl ?_
  intro p e s m args below meth c s₁ B hml hv
  obtain ⟨rfl, henv, hw, had⟩ := hv
  have hts := atoms_spec (ws := .code y cc nL ret :: tw) B.pre
  have hnm := name_of_methodNamed B.named B.method
  have hown : s.vm.findClass own = some m.cls := by rw [← ho]; exact findClass_of_methodNamed B.named
  have hb := body (p, e, { frames := fr, cells := mc, slots := ms, locals := lo }, s, m, av.toArray, below, meth, c, MQ below (JC Γ ad (N + mc) post) av.toArray s mc ms (jA Γ))
    ⟨B.exec, B.bytes, hml, hown, fun w hw => hts w (List.mem_cons_of_mem _ hw), henv, rfl⟩ ⟨rfl, B.returns, B.notSynchronized⟩ (fun h => hnm.1.trans h) had
  rw [lg_entry_eq]
  have hl := lv_entry av (n := nL) hn
  rw [← hL] at hl
  exact hb s.heap [] _ hl hw va_S.rf
section JRules
variable {l : Launch} {Γ : JG} {Ω : JO} {nL : Nat} {ad : Nat → Nat} {N k n : Nat} {E : Nat → va_E} {pc q : Nat} {L : List (Option Value)} {st : List Value} {own : String} {cc : ByteArray} {fr rc rs lo : Nat}
theorem J_iconst (X : JX Γ Ω own cc nL fr rc rs lo) {z : Int} (hd : decode cc pc = .ok (.iconst z, 1)) (hq : pc + 1 = q) (kk : J l Γ Ω nL ad N k n E q L (.int (jI z) :: st)) : J l Γ Ω nL ad N k n E pc L st := by
  subst hq
  exact fun H locs ls hl hw hS => lv_iconst X.1 X.2.1 hd rfl (kk H locs ls hl hw hS)
theorem J_bipush (X : JX Γ Ω own cc nL fr rc rs lo) {z : Int} (hd : decode cc pc = .ok (.bipush z, 2)) (hq : pc + 2 = q) (hz : (Int8.ofInt z).toInt32 = jI z) (kk : J l Γ Ω nL ad N k n E q L (.int (jI z) :: st)) : J l Γ Ω nL ad N k n E pc L st := by
  subst hq
  exact fun H locs ls hl hw hS => lv_bipush X.1 X.2.1 hd hz (kk H locs ls hl hw hS)
theorem J_sipush (X : JX Γ Ω own cc nL fr rc rs lo) {z : Int} (hd : decode cc pc = .ok (.sipush z, 3)) (hq : pc + 3 = q) (hz : (Int16.ofInt z).toInt32 = jI z) (kk : J l Γ Ω nL ad N k n E q L (.int (jI z) :: st)) : J l Γ Ω nL ad N k n E pc L st := by
  subst hq
  exact fun H locs ls hl hw hS => lv_sipush X.1 X.2.1 hd hz (kk H locs ls hl hw hS)
theorem J_lconst (X : JX Γ Ω own cc nL fr rc rs lo) {z : Fin 2} {v : Int} (hd : decode cc pc = .ok (.lconst z, 1)) (hv : Int64.ofNat (z : Nat) = jL v) (hq : pc + 1 = q) (kk : J l Γ Ω nL ad N k n E q L (.long (jL v) :: st)) : J l Γ Ω nL ad N k n E pc L st := by
  subst hq
  exact fun H locs ls hl hw hS => lv_lconst X.1 X.2.1 hd hv (kk H locs ls hl hw hS)
theorem J_iload_n (X : JX Γ Ω own cc nL fr rc rs lo) {j : Fin 4} {x : Int32} (hd : decode cc pc = .ok (.iload_n j, 1)) (hl0 : L[(j : Nat)]? = some (some (.int x))) (hq : pc + 1 = q) (kk : J l Γ Ω nL ad N k n E q L (.int x :: st)) : J l Γ Ω nL ad N k n E pc L st := by
  subst hq
  exact fun H locs ls hl hw hS => lv_iload_n X.1 X.2.1 hd rfl (lq_at hl hl0) (kk H locs ls hl hw hS)
theorem J_iload (X : JX Γ Ω own cc nL fr rc rs lo) {j : Nat} {x : Int32} (hd : decode cc pc = .ok (.iload j, 2)) (hl0 : L[j]? = some (some (.int x))) (hq : pc + 2 = q) (kk : J l Γ Ω nL ad N k n E q L (.int x :: st)) : J l Γ Ω nL ad N k n E pc L st := by
  subst hq
  exact fun H locs ls hl hw hS => lv_iload X.1 X.2.1 hd (lq_at hl hl0) (kk H locs ls hl hw hS)
theorem J_lload_n (X : JX Γ Ω own cc nL fr rc rs lo) {j : Fin 4} {x : Int64} (hd : decode cc pc = .ok (.lload_n j, 1)) (hl0 : L[(j : Nat)]? = some (some (.long x))) (hq : pc + 1 = q) (kk : J l Γ Ω nL ad N k n E q L (.long x :: st)) : J l Γ Ω nL ad N k n E pc L st := by
  subst hq
  exact fun H locs ls hl hw hS => lv_lload_n X.1 X.2.1 hd rfl (lq_at hl hl0) (kk H locs ls hl hw hS)
theorem J_lload (X : JX Γ Ω own cc nL fr rc rs lo) {j : Nat} {x : Int64} (hd : decode cc pc = .ok (.lload j, 2)) (hl0 : L[j]? = some (some (.long x))) (hq : pc + 2 = q) (kk : J l Γ Ω nL ad N k n E q L (.long x :: st)) : J l Γ Ω nL ad N k n E pc L st := by
  subst hq
  exact fun H locs ls hl hw hS => lv_lload X.1 X.2.1 hd (lq_at hl hl0) (kk H locs ls hl hw hS)
theorem J_aload_n (X : JX Γ Ω own cc nL fr rc rs lo) {j : Fin 4} {x : Nat} (hd : decode cc pc = .ok (.aload_n j, 1)) (hl0 : L[(j : Nat)]? = some (some (.ref x))) (hq : pc + 1 = q) (kk : J l Γ Ω nL ad N k n E q L (.ref x :: st)) : J l Γ Ω nL ad N k n E pc L st := by
  subst hq
  exact fun H locs ls hl hw hS => lv_aload_n X.1 X.2.1 hd rfl (lq_at hl hl0) (kk H locs ls hl hw hS)
theorem J_aload (X : JX Γ Ω own cc nL fr rc rs lo) {j : Nat} {x : Nat} (hd : decode cc pc = .ok (.aload j, 2)) (hl0 : L[j]? = some (some (.ref x))) (hq : pc + 2 = q) (kk : J l Γ Ω nL ad N k n E q L (.ref x :: st)) : J l Γ Ω nL ad N k n E pc L st := by
  subst hq
  exact fun H locs ls hl hw hS => lv_aload X.1 X.2.1 hd (lq_at hl hl0) (kk H locs ls hl hw hS)
theorem J_istore_n (X : JX Γ Ω own cc nL fr rc rs lo) {j : Fin 4} {x : Int32} (hd : decode cc pc = .ok (.istore_n j, 1)) (hj : (j : Nat) < nL) (hc : lqc L (j : Nat) = true) (hq : pc + 1 = q) (kk : J l Γ Ω nL ad N k n E q (L.set (j : Nat) (some (.int x))) st) : J l Γ Ω nL ad N k n E pc L (.int x :: st) := by
  subst hq
  exact fun H locs ls hl hw hS => lv_istore_n X.1 X.2.1 hd rfl hl hj rfl (fun ls' hl' => kk H locs ls' (lq_set1 hc hl') hw hS)
theorem J_istore (X : JX Γ Ω own cc nL fr rc rs lo) {j : Nat} {x : Int32} (hd : decode cc pc = .ok (.istore j, 2)) (hj : j < nL) (hc : lqc L j = true) (hq : pc + 2 = q) (kk : J l Γ Ω nL ad N k n E q (L.set j (some (.int x))) st) : J l Γ Ω nL ad N k n E pc L (.int x :: st) := by
  subst hq
  exact fun H locs ls hl hw hS => lv_istore X.1 X.2.1 hd hl hj rfl (fun ls' hl' => kk H locs ls' (lq_set1 hc hl') hw hS)
theorem J_lstore (X : JX Γ Ω own cc nL fr rc rs lo) {j : Nat} {x : Int64} (hd : decode cc pc = .ok (.lstore j, 2)) (hj : j + 1 < nL) (hc : lqc L j = true) (hq : pc + 2 = q) (kk : J l Γ Ω nL ad N k n E q ((L.set j (some (.long x))).set (j + 1) none) st) : J l Γ Ω nL ad N k n E pc L (.long x :: st) := by
  subst hq
  exact fun H locs ls hl hw hS => lv_lstore X.1 X.2.1 hd hl hj rfl (fun ls' hl' => kk H locs ls' (lq_set2 hc hl') hw hS)
theorem J_astore_n (X : JX Γ Ω own cc nL fr rc rs lo) {j : Fin 4} {x : Nat} (hd : decode cc pc = .ok (.astore_n j, 1)) (hj : (j : Nat) < nL) (hc : lqc L (j : Nat) = true) (hq : pc + 1 = q) (kk : J l Γ Ω nL ad N k n E q (L.set (j : Nat) (some (.ref x))) st) : J l Γ Ω nL ad N k n E pc L (.ref x :: st) := by
  subst hq
  exact fun H locs ls hl hw hS => lv_astore_n X.1 X.2.1 hd rfl hl hj rfl (fun ls' hl' => kk H locs ls' (lq_set1 hc hl') hw hS)
theorem J_astore (X : JX Γ Ω own cc nL fr rc rs lo) {j : Nat} {x : Nat} (hd : decode cc pc = .ok (.astore j, 2)) (hj : j < nL) (hc : lqc L j = true) (hq : pc + 2 = q) (kk : J l Γ Ω nL ad N k n E q (L.set j (some (.ref x))) st) : J l Γ Ω nL ad N k n E pc L (.ref x :: st) := by
  subst hq
  exact fun H locs ls hl hw hS => lv_astore X.1 X.2.1 hd hl hj rfl (fun ls' hl' => kk H locs ls' (lq_set1 hc hl') hw hS)
theorem J_iinc (X : JX Γ Ω own cc nL fr rc rs lo) {j : Nat} {z x : Int} (hd : decode cc pc = .ok (.iinc j z, 3)) (hl0 : L[j]? = some (some (.int (jI x)))) (hj : j < nL) (hc : lqc L j = true) (hq : pc + 3 = q) (kk : J l Γ Ω nL ad N k n E q (L.set j (some (.int (jI (x + z))))) st) : J l Γ Ω nL ad N k n E pc L st := by
  subst hq
  intro H locs ls hl hw hS
  obtain ⟨i0, hi0⟩ := List.getElem?_of_mem ((lqa_mem L 0 j (.int (jI x))).mpr ⟨Nat.zero_le _, hl0⟩)
  exact lv_iinc X.1 X.2.1 hd hl hi0 (show jI x + Int32.ofInt z = jI (x + z) from jI_add x z) hj rfl (fun ls' hl' => kk H locs ls' (lq_set1 hc hl') hw hS)
theorem J_iadd (X : JX Γ Ω own cc nL fr rc rs lo) {a b : Int} (hd : decode cc pc = .ok (.iadd, 1)) (hq : pc + 1 = q) (kk : J l Γ Ω nL ad N k n E q L (.int (jI (a + b)) :: st)) : J l Γ Ω nL ad N k n E pc L (.int (jI b) :: .int (jI a) :: st) := by
  subst hq
  exact fun H locs ls hl hw hS => lv_iadd X.1 X.2.1 hd (by rw [jI_add]; exact kk H locs ls hl hw hS)
theorem J_isub (X : JX Γ Ω own cc nL fr rc rs lo) {a b : Int} (hd : decode cc pc = .ok (.isub, 1)) (hq : pc + 1 = q) (kk : J l Γ Ω nL ad N k n E q L (.int (jI (a - b)) :: st)) : J l Γ Ω nL ad N k n E pc L (.int (jI b) :: .int (jI a) :: st) := by
  subst hq
  exact fun H locs ls hl hw hS => lv_isub X.1 X.2.1 hd (by rw [jI_sub]; exact kk H locs ls hl hw hS)
theorem J_imul (X : JX Γ Ω own cc nL fr rc rs lo) {a b : Int} (hd : decode cc pc = .ok (.imul, 1)) (hq : pc + 1 = q) (kk : J l Γ Ω nL ad N k n E q L (.int (jI (a * b)) :: st)) : J l Γ Ω nL ad N k n E pc L (.int (jI b) :: .int (jI a) :: st) := by
  subst hq
  exact fun H locs ls hl hw hS => lv_imul X.1 X.2.1 hd (by rw [jI_mul]; exact kk H locs ls hl hw hS)
theorem J_idiv (X : JX Γ Ω own cc nL fr rc rs lo) {a b : Int} (hd : decode cc pc = .ok (.idiv, 1)) (hq : pc + 1 = q) (ha : 0 ≤ a ∧ a < 2147483648) (hb : 0 < b ∧ b < 2147483648) (kk : J l Γ Ω nL ad N k n E q L (.int (jI (a / b)) :: st)) : J l Γ Ω nL ad N k n E pc L (.int (jI b) :: .int (jI a) :: st) := by
  subst hq
  refine fun H locs ls hl hw hS => lv_idiv X.1 X.2.1 hd ?_ (by rw [jI_div ha hb]; exact kk H locs ls hl hw hS)
  rw [← jI_0, jI_eq (by omega) (by omega)]; omega
theorem J_irem (X : JX Γ Ω own cc nL fr rc rs lo) {a b : Int} (hd : decode cc pc = .ok (.irem, 1)) (hq : pc + 1 = q) (ha : 0 ≤ a ∧ a < 2147483648) (hb : 0 < b ∧ b < 2147483648) (kk : J l Γ Ω nL ad N k n E q L (.int (jI (a % b)) :: st)) : J l Γ Ω nL ad N k n E pc L (.int (jI b) :: .int (jI a) :: st) := by
  subst hq
  refine fun H locs ls hl hw hS => lv_irem X.1 X.2.1 hd ?_ (by rw [jI_rem ha hb]; exact kk H locs ls hl hw hS)
  rw [← jI_0, jI_eq (by omega) (by omega)]; omega
/-- masks, shifts: whatever the two give -/
theorem J_iand (X : JX Γ Ω own cc nL fr rc rs lo) {a b v : Int} (hd : decode cc pc = .ok (.iand, 1)) (hq : pc + 1 = q) (hv : jI a &&& jI b = jI v) (kk : J l Γ Ω nL ad N k n E q L (.int (jI v) :: st)) : J l Γ Ω nL ad N k n E pc L (.int (jI b) :: .int (jI a) :: st) := by
  subst hq
  exact fun H locs ls hl hw hS => lv_iand X.1 X.2.1 hd (by rw [hv]; exact kk H locs ls hl hw hS)
theorem J_ior (X : JX Γ Ω own cc nL fr rc rs lo) {a b v : Int} (hd : decode cc pc = .ok (.ior, 1)) (hq : pc + 1 = q) (hv : jI a ||| jI b = jI v) (kk : J l Γ Ω nL ad N k n E q L (.int (jI v) :: st)) : J l Γ Ω nL ad N k n E pc L (.int (jI b) :: .int (jI a) :: st) := by
  subst hq
  exact fun H locs ls hl hw hS => lv_ior X.1 X.2.1 hd (by rw [hv]; exact kk H locs ls hl hw hS)
theorem J_ishl (X : JX Γ Ω own cc nL fr rc rs lo) {x y v : Int32} (hd : decode cc pc = .ok (.ishl, 1)) (hq : pc + 1 = q) (hv : x <<< (y &&& 31) = v) (kk : J l Γ Ω nL ad N k n E q L (.int v :: st)) : J l Γ Ω nL ad N k n E pc L (.int y :: .int x :: st) := by
  subst hq
  exact fun H locs ls hl hw hS => lv_ishl X.1 X.2.1 hd (by rw [hv]; exact kk H locs ls hl hw hS)
theorem J_ishr (X : JX Γ Ω own cc nL fr rc rs lo) {x y v : Int32} (hd : decode cc pc = .ok (.ishr, 1)) (hq : pc + 1 = q) (hv : x >>> (y &&& 31) = v) (kk : J l Γ Ω nL ad N k n E q L (.int v :: st)) : J l Γ Ω nL ad N k n E pc L (.int y :: .int x :: st) := by
  subst hq
  exact fun H locs ls hl hw hS => lv_ishr X.1 X.2.1 hd (by rw [hv]; exact kk H locs ls hl hw hS)
theorem J_i2l (X : JX Γ Ω own cc nL fr rc rs lo) {a : Int} (hd : decode cc pc = .ok (.i2l, 1)) (hq : pc + 1 = q) (ha : -2147483648 ≤ a ∧ a < 2147483648) (kk : J l Γ Ω nL ad N k n E q L (.long (jL a) :: st)) : J l Γ Ω nL ad N k n E pc L (.int (jI a) :: st) := by
  subst hq
  exact fun H locs ls hl hw hS => lv_i2l X.1 X.2.1 hd (jI_i2l ha) (kk H locs ls hl hw hS)
theorem J_l2i (X : JX Γ Ω own cc nL fr rc rs lo) {a : Int} (hd : decode cc pc = .ok (.l2i, 1)) (hq : pc + 1 = q) (kk : J l Γ Ω nL ad N k n E q L (.int (jI a) :: st)) : J l Γ Ω nL ad N k n E pc L (.long (jL a) :: st) := by
  subst hq
  exact fun H locs ls hl hw hS => lv_l2i X.1 X.2.1 hd (jL_l2i a) (kk H locs ls hl hw hS)
theorem J_ladd (X : JX Γ Ω own cc nL fr rc rs lo) {a b : Int} (hd : decode cc pc = .ok (.ladd, 1)) (hq : pc + 1 = q) (kk : J l Γ Ω nL ad N k n E q L (.long (jL (a + b)) :: st)) : J l Γ Ω nL ad N k n E pc L (.long (jL b) :: .long (jL a) :: st) := by
  subst hq
  exact fun H locs ls hl hw hS => lv_ladd X.1 X.2.1 hd (by rw [jL_add]; exact kk H locs ls hl hw hS)
theorem J_i2b (X : JX Γ Ω own cc nL fr rc rs lo) {x v : Int32} (hd : decode cc pc = .ok (.i2b, 1)) (hq : pc + 1 = q) (hv : x.toInt8.toInt32 = v) (kk : J l Γ Ω nL ad N k n E q L (.int v :: st)) : J l Γ Ω nL ad N k n E pc L (.int x :: st) := by
  subst hq
  exact fun H locs ls hl hw hS => lv_i2b X.1 X.2.1 hd hv (kk H locs ls hl hw hS)
theorem J_i2s (X : JX Γ Ω own cc nL fr rc rs lo) {x v : Int32} (hd : decode cc pc = .ok (.i2s, 1)) (hq : pc + 1 = q) (hv : x.toInt16.toInt32 = v) (kk : J l Γ Ω nL ad N k n E q L (.int v :: st)) : J l Γ Ω nL ad N k n E pc L (.int x :: st) := by
  subst hq
  exact fun H locs ls hl hw hS => lv_i2s X.1 X.2.1 hd hv (kk H locs ls hl hw hS)
theorem J_i2c (X : JX Γ Ω own cc nL fr rc rs lo) {x v : Int32} (hd : decode cc pc = .ok (.i2c, 1)) (hq : pc + 1 = q) (hv : (x.toUInt32 % 65536).toInt32 = v) (kk : J l Γ Ω nL ad N k n E q L (.int v :: st)) : J l Γ Ω nL ad N k n E pc L (.int x :: st) := by
  subst hq
  exact fun H locs ls hl hw hS => lv_i2c X.1 X.2.1 hd hv (kk H locs ls hl hw hS)
theorem J_dup (X : JX Γ Ω own cc nL fr rc rs lo) {v : Value} (hd : decode cc pc = .ok (.dup, 1)) (hv : v.category = 1) (hq : pc + 1 = q) (kk : J l Γ Ω nL ad N k n E q L (v :: v :: st)) : J l Γ Ω nL ad N k n E pc L (v :: st) := by
  subst hq
  exact fun H locs ls hl hw hS => lv_dup X.1 X.2.1 hd hv (kk H locs ls hl hw hS)
theorem J_dup2 (X : JX Γ Ω own cc nL fr rc rs lo) {v w : Value} (hd : decode cc pc = .ok (.dup2, 1)) (hv : v.category = 1) (hw0 : w.category = 1) (hq : pc + 1 = q) (kk : J l Γ Ω nL ad N k n E q L (v :: w :: v :: w :: st)) : J l Γ Ω nL ad N k n E pc L (v :: w :: st) := by
  subst hq
  exact fun H locs ls hl hw hS => lv_dup2_11 X.1 X.2.1 hd hv hw0 (kk H locs ls hl hw hS)
theorem J_pop (X : JX Γ Ω own cc nL fr rc rs lo) {v : Value} (hd : decode cc pc = .ok (.pop, 1)) (hv : v.category = 1) (hq : pc + 1 = q) (kk : J l Γ Ω nL ad N k n E q L st) : J l Γ Ω nL ad N k n E pc L (v :: st) := by
  subst hq
  exact fun H locs ls hl hw hS => lv_pop X.1 X.2.1 hd hv (kk H locs ls hl hw hS)
theorem J_goto (X : JX Γ Ω own cc nL fr rc rs lo) {off : Int} (hd : decode cc pc = .ok (.goto off, 3)) (hq : (pc : Int) + off = (q : Int)) (kk : J l Γ Ω nL ad N k n E q L st) : J l Γ Ω nL ad N k n E pc L st :=
  fun H locs ls hl hw hS => lv_goto X.1 X.2.1 hd hq (kk H locs ls hl hw hS)
theorem J_ldc (X : JX Γ Ω own cc nL fr rc rs lo) {idx : Nat} {v : Int32} (hd : decode cc pc = .ok (.ldc idx, 2)) (hw0 : Cond.constant own idx v ∈ tw) (hq : pc + 2 = q) (kk : J l Γ Ω nL ad N k n E q L (.int v :: st)) : J l Γ Ω nL ad N k n E pc L st := by
  subst hq
  exact fun H locs ls hl hw hS => lv_ldc X.1 X.2.1 X.2.2.2.1 (X.2.2.2.2.1 _ hw0) hd (kk H locs ls hl hw hS)
theorem J_ldcw (X : JX Γ Ω own cc nL fr rc rs lo) {idx : Nat} {v : Int32} (hd : decode cc pc = .ok (.ldc_w idx, 3)) (hw0 : Cond.constant own idx v ∈ tw) (hq : pc + 3 = q) (kk : J l Γ Ω nL ad N k n E q L (.int v :: st)) : J l Γ Ω nL ad N k n E pc L st := by
  subst hq
  exact fun H locs ls hl hw hS => lv_ldcw X.1 X.2.1 X.2.2.2.1 (X.2.2.2.2.1 _ hw0) hd (kk H locs ls hl hw hS)
theorem J_ldc2 (X : JX Γ Ω own cc nL fr rc rs lo) {idx : Nat} {v : Int64} (hd : decode cc pc = .ok (.ldc2_w idx, 3)) (hw0 : Cond.constantLong own idx v ∈ tw) (hq : pc + 3 = q) (kk : J l Γ Ω nL ad N k n E q L (.long v :: st)) : J l Γ Ω nL ad N k n E pc L st := by
  subst hq
  exact fun H locs ls hl hw hS => lv_ldc2 X.1 X.2.1 X.2.2.2.1 (X.2.2.2.2.1 _ hw0) hd (kk H locs ls hl hw hS)
/-- weaker locals, weaker counts -/
theorem J_widen {k' n' : Nat} (h1 : k ≤ k') (h2 : n ≤ n') (kk : J l Γ Ω nL ad N k' n' E pc L st) : J l Γ Ω nL ad N k n E pc L st :=
  fun H locs ls hl hw hS => W.widen h1 h2 (kk H locs ls hl hw hS)
theorem J_loc {L' : List (Option Value)} (h : ∀ (i : Nat) (v : Value), L'[i]? = some (some v) → L[i]? = some (some v)) (kk : J l Γ Ω nL ad N k n E pc L' st) : J l Γ Ω nL ad N k n E pc L st := by
  intro H locs ls hl hw hS
  refine kk H locs ls ⟨hl.1, hl.2.1, fun x hx => ?_⟩ hw hS
  obtain ⟨i, v⟩ := x
  obtain ⟨-, h2⟩ := (lqa_mem _ 0 i v).mp hx
  exact lq_at hl (h i v h2)
end JRules
