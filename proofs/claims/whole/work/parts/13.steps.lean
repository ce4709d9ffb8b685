/-! branches, ends, heap -/
def bI (p : Prop) [Decidable p] : Int := if p then 1 else 0
theorem bI_t {p : Prop} [Decidable p] (h : p) : bI p = 1 := if_pos h
theorem bI_f {p : Prop} [Decidable p] (h : ¬ p) : bI p = 0 := if_neg h
theorem bI_bd (p : Prop) [Decidable p] : bI p = 0 ∨ bI p = 1 := by unfold bI; split <;> simp
theorem bI_iff {p r : Prop} [Decidable p] [Decidable r] (h : p ↔ r) : bI p = bI r := by unfold bI; simp [h]
/-- a class of the table -/
def jcl (ci : Nat) (C : String) (T : u_T) (M : Nat) : Prop := vwCl[ci]? = some (C, T, M) ∧ (∀ w ∈ u_ws C T M, w ∈ tw) ∧ (∃ ty0 : Nat → FieldType, ∀ k, k < M → parseFieldDescriptor (T k).2.2.1 = some (ty0 k)) ∧ ∀ a, a < M → ∀ b, b < M → a ≠ b → (T a).2.1 ≠ (T b).2.1
/-- a field that a pool entry names -/
def jfl (own : String) (idx ci : Nat) (C : String) (T : u_T) (M k : Nat) : Prop := (Cond.fieldLink own idx (T k).1 (T k).2.1 (T k).2.2.1 ∈ tw ∨ ∃ host, Cond.fieldLinkNest own idx (T k).1 (T k).2.1 (T k).2.2.1 host ∈ jnest) ∧ jcl ci C T M ∧ k < M
/-- an array of ints, of booleans, of references -/
abbrev aI (Γ : JG) (n : Nat) (f : Int → Int) : va_E := .inl (Γ.2.2.1 0, n, .inl (fun j : Nat => jI (f (j : Int))))
abbrev aZ (Γ : JG) (n : Nat) (f : Int → Int) : va_E := .inl (Γ.2.2.1 1, n, .inl (fun j : Nat => jI (f (j : Int))))
abbrev aR (Γ : JG) (c : Nat) (n : Nat) (f : Nat → Option Nat) : va_E := .inl (Γ.2.2.1 c, n, .inr (.inr (.inr (.inr f))))
abbrev iu (f : Int → Int) (i v : Int) : Int → Int := fun j => if j = i then v else f j
theorem iu_upd {f : Int → Int} {i v : Int} (hi : 0 ≤ i) : upd (fun j : Nat => jI (f (j : Int))) i.toNat (jI v) = fun j : Nat => jI (iu f i v (j : Int)) := by
  funext j
  by_cases h : j = i.toNat
  · subst h
    have : ((i.toNat : Nat) : Int) = i := by omega
    simp [upd, iu, this]
  · have h2 : ¬ ((j : Nat) : Int) = i := by omega
    simp [upd, iu, h, h2]
section JBranch
variable {l : Launch} {Γ : JG} {Ω : JO} {nL : Nat} {ad : Nat → Nat} {N k n : Nat} {E : Nat → va_E} {pc q : Nat} {L : List (Option Value)} {st : List Value} {own : String} {cc : ByteArray} {fr rc rs lo : Nat}
theorem J_if_eq (X : JX Γ Ω own cc nL fr rc rs lo) {a off : Int} {tgt : Nat} (hd : decode cc pc = .ok (.ifCond .eq off, 3)) (ht : (pc : Int) + off = (tgt : Int)) (hq : pc + 3 = q) (ha : -2147483648 ≤ a ∧ a < 2147483648) (kt : a = 0 → J l Γ Ω nL ad N k n E tgt L st) (kf : ¬ a = 0 → J l Γ Ω nL ad N k n E q L st) : J l Γ Ω nL ad N k n E pc L (.int (jI a) :: st) := by
  subst hq
  exact fun H locs ls hl hw hS => lv_if_eq X.1 X.2.1 hd ht (fun h => kt ((jI_eq (a := a) (b := 0) ha (by omega)).mp h) H locs ls hl hw hS) (fun h => kf (fun e => h ((jI_eq (a := a) (b := 0) ha (by omega)).mpr e)) H locs ls hl hw hS)
theorem J_if_ne (X : JX Γ Ω own cc nL fr rc rs lo) {a off : Int} {tgt : Nat} (hd : decode cc pc = .ok (.ifCond .ne off, 3)) (ht : (pc : Int) + off = (tgt : Int)) (hq : pc + 3 = q) (ha : -2147483648 ≤ a ∧ a < 2147483648) (kt : ¬ a = 0 → J l Γ Ω nL ad N k n E tgt L st) (kf : a = 0 → J l Γ Ω nL ad N k n E q L st) : J l Γ Ω nL ad N k n E pc L (.int (jI a) :: st) := by
  subst hq
  exact fun H locs ls hl hw hS => lv_if_ne X.1 X.2.1 hd ht (fun h => kt (fun e => h ((jI_eq (a := a) (b := 0) ha (by omega)).mpr e)) H locs ls hl hw hS) (fun h => kf ((jI_eq (a := a) (b := 0) ha (by omega)).mp h) H locs ls hl hw hS)
theorem J_if_lt (X : JX Γ Ω own cc nL fr rc rs lo) {a off : Int} {tgt : Nat} (hd : decode cc pc = .ok (.ifCond .lt off, 3)) (ht : (pc : Int) + off = (tgt : Int)) (hq : pc + 3 = q) (ha : -2147483648 ≤ a ∧ a < 2147483648) (kt : a < 0 → J l Γ Ω nL ad N k n E tgt L st) (kf : ¬ a < 0 → J l Γ Ω nL ad N k n E q L st) : J l Γ Ω nL ad N k n E pc L (.int (jI a) :: st) := by
  subst hq
  exact fun H locs ls hl hw hS => lv_if_lt X.1 X.2.1 hd ht (fun h => kt ((jI_lt (a := a) (b := 0) ha (by omega)).mp h) H locs ls hl hw hS) (fun h => kf (fun e => h ((jI_lt (a := a) (b := 0) ha (by omega)).mpr e)) H locs ls hl hw hS)
theorem J_if_ge (X : JX Γ Ω own cc nL fr rc rs lo) {a off : Int} {tgt : Nat} (hd : decode cc pc = .ok (.ifCond .ge off, 3)) (ht : (pc : Int) + off = (tgt : Int)) (hq : pc + 3 = q) (ha : -2147483648 ≤ a ∧ a < 2147483648) (kt : 0 ≤ a → J l Γ Ω nL ad N k n E tgt L st) (kf : ¬ 0 ≤ a → J l Γ Ω nL ad N k n E q L st) : J l Γ Ω nL ad N k n E pc L (.int (jI a) :: st) := by
  subst hq
  exact fun H locs ls hl hw hS => lv_if_ge X.1 X.2.1 hd ht (fun h => kt ((jI_le (a := 0) (b := a) (by omega) ha).mp h) H locs ls hl hw hS) (fun h => kf (fun e => h ((jI_le (a := 0) (b := a) (by omega) ha).mpr e)) H locs ls hl hw hS)
theorem J_if_gt (X : JX Γ Ω own cc nL fr rc rs lo) {a off : Int} {tgt : Nat} (hd : decode cc pc = .ok (.ifCond .gt off, 3)) (ht : (pc : Int) + off = (tgt : Int)) (hq : pc + 3 = q) (ha : -2147483648 ≤ a ∧ a < 2147483648) (kt : 0 < a → J l Γ Ω nL ad N k n E tgt L st) (kf : ¬ 0 < a → J l Γ Ω nL ad N k n E q L st) : J l Γ Ω nL ad N k n E pc L (.int (jI a) :: st) := by
  subst hq
  exact fun H locs ls hl hw hS => lv_if_gt X.1 X.2.1 hd ht (fun h => kt ((jI_lt (a := 0) (b := a) (by omega) ha).mp h) H locs ls hl hw hS) (fun h => kf (fun e => h ((jI_lt (a := 0) (b := a) (by omega) ha).mpr e)) H locs ls hl hw hS)
theorem J_if_le (X : JX Γ Ω own cc nL fr rc rs lo) {a off : Int} {tgt : Nat} (hd : decode cc pc = .ok (.ifCond .le off, 3)) (ht : (pc : Int) + off = (tgt : Int)) (hq : pc + 3 = q) (ha : -2147483648 ≤ a ∧ a < 2147483648) (kt : a ≤ 0 → J l Γ Ω nL ad N k n E tgt L st) (kf : ¬ a ≤ 0 → J l Γ Ω nL ad N k n E q L st) : J l Γ Ω nL ad N k n E pc L (.int (jI a) :: st) := by
  subst hq
  exact fun H locs ls hl hw hS => lv_if_le X.1 X.2.1 hd ht (fun h => kt ((jI_le (a := a) (b := 0) ha (by omega)).mp h) H locs ls hl hw hS) (fun h => kf (fun e => h ((jI_le (a := a) (b := 0) ha (by omega)).mpr e)) H locs ls hl hw hS)
theorem J_icmp_eq (X : JX Γ Ω own cc nL fr rc rs lo) {a b off : Int} {tgt : Nat} (hd : decode cc pc = .ok (.if_icmp .eq off, 3)) (ht : (pc : Int) + off = (tgt : Int)) (hq : pc + 3 = q) (ha : -2147483648 ≤ a ∧ a < 2147483648) (hb : -2147483648 ≤ b ∧ b < 2147483648) (kt : a = b → J l Γ Ω nL ad N k n E tgt L st) (kf : ¬ a = b → J l Γ Ω nL ad N k n E q L st) : J l Γ Ω nL ad N k n E pc L (.int (jI b) :: .int (jI a) :: st) := by
  subst hq
  exact fun H locs ls hl hw hS => lv_icmp_eq X.1 X.2.1 hd ht (fun h => kt ((jI_eq ha hb).mp h) H locs ls hl hw hS) (fun h => kf (fun e => h ((jI_eq ha hb).mpr e)) H locs ls hl hw hS)
theorem J_icmp_ne (X : JX Γ Ω own cc nL fr rc rs lo) {a b off : Int} {tgt : Nat} (hd : decode cc pc = .ok (.if_icmp .ne off, 3)) (ht : (pc : Int) + off = (tgt : Int)) (hq : pc + 3 = q) (ha : -2147483648 ≤ a ∧ a < 2147483648) (hb : -2147483648 ≤ b ∧ b < 2147483648) (kt : ¬ a = b → J l Γ Ω nL ad N k n E tgt L st) (kf : a = b → J l Γ Ω nL ad N k n E q L st) : J l Γ Ω nL ad N k n E pc L (.int (jI b) :: .int (jI a) :: st) := by
  subst hq
  exact fun H locs ls hl hw hS => lv_icmp_ne X.1 X.2.1 hd ht (fun h => kt (fun e => h ((jI_eq ha hb).mpr e)) H locs ls hl hw hS) (fun h => kf ((jI_eq ha hb).mp h) H locs ls hl hw hS)
theorem J_icmp_lt (X : JX Γ Ω own cc nL fr rc rs lo) {a b off : Int} {tgt : Nat} (hd : decode cc pc = .ok (.if_icmp .lt off, 3)) (ht : (pc : Int) + off = (tgt : Int)) (hq : pc + 3 = q) (ha : -2147483648 ≤ a ∧ a < 2147483648) (hb : -2147483648 ≤ b ∧ b < 2147483648) (kt : a < b → J l Γ Ω nL ad N k n E tgt L st) (kf : ¬ a < b → J l Γ Ω nL ad N k n E q L st) : J l Γ Ω nL ad N k n E pc L (.int (jI b) :: .int (jI a) :: st) := by
  subst hq
  exact fun H locs ls hl hw hS => lv_icmp_lt X.1 X.2.1 hd ht (fun h => kt ((jI_lt ha hb).mp h) H locs ls hl hw hS) (fun h => kf (fun e => h ((jI_lt ha hb).mpr e)) H locs ls hl hw hS)
theorem J_icmp_ge (X : JX Γ Ω own cc nL fr rc rs lo) {a b off : Int} {tgt : Nat} (hd : decode cc pc = .ok (.if_icmp .ge off, 3)) (ht : (pc : Int) + off = (tgt : Int)) (hq : pc + 3 = q) (ha : -2147483648 ≤ a ∧ a < 2147483648) (hb : -2147483648 ≤ b ∧ b < 2147483648) (kt : b ≤ a → J l Γ Ω nL ad N k n E tgt L st) (kf : ¬ b ≤ a → J l Γ Ω nL ad N k n E q L st) : J l Γ Ω nL ad N k n E pc L (.int (jI b) :: .int (jI a) :: st) := by
  subst hq
  exact fun H locs ls hl hw hS => lv_icmp_ge X.1 X.2.1 hd ht (fun h => kt ((jI_le hb ha).mp h) H locs ls hl hw hS) (fun h => kf (fun e => h ((jI_le hb ha).mpr e)) H locs ls hl hw hS)
theorem J_icmp_gt (X : JX Γ Ω own cc nL fr rc rs lo) {a b off : Int} {tgt : Nat} (hd : decode cc pc = .ok (.if_icmp .gt off, 3)) (ht : (pc : Int) + off = (tgt : Int)) (hq : pc + 3 = q) (ha : -2147483648 ≤ a ∧ a < 2147483648) (hb : -2147483648 ≤ b ∧ b < 2147483648) (kt : b < a → J l Γ Ω nL ad N k n E tgt L st) (kf : ¬ b < a → J l Γ Ω nL ad N k n E q L st) : J l Γ Ω nL ad N k n E pc L (.int (jI b) :: .int (jI a) :: st) := by
  subst hq
  exact fun H locs ls hl hw hS => lv_icmp_gt X.1 X.2.1 hd ht (fun h => kt ((jI_lt hb ha).mp h) H locs ls hl hw hS) (fun h => kf (fun e => h ((jI_lt hb ha).mpr e)) H locs ls hl hw hS)
theorem J_icmp_le (X : JX Γ Ω own cc nL fr rc rs lo) {a b off : Int} {tgt : Nat} (hd : decode cc pc = .ok (.if_icmp .le off, 3)) (ht : (pc : Int) + off = (tgt : Int)) (hq : pc + 3 = q) (ha : -2147483648 ≤ a ∧ a < 2147483648) (hb : -2147483648 ≤ b ∧ b < 2147483648) (kt : a ≤ b → J l Γ Ω nL ad N k n E tgt L st) (kf : ¬ a ≤ b → J l Γ Ω nL ad N k n E q L st) : J l Γ Ω nL ad N k n E pc L (.int (jI b) :: .int (jI a) :: st) := by
  subst hq
  exact fun H locs ls hl hw hS => lv_icmp_le X.1 X.2.1 hd ht (fun h => kt ((jI_le ha hb).mp h) H locs ls hl hw hS) (fun h => kf (fun e => h ((jI_le ha hb).mpr e)) H locs ls hl hw hS)
theorem J_if_eqB (X : JX Γ Ω own cc nL fr rc rs lo) {p : Prop} [Decidable p] {off : Int} {tgt : Nat} (hd : decode cc pc = .ok (.ifCond .eq off, 3)) (ht : (pc : Int) + off = (tgt : Int)) (hq : pc + 3 = q) (kt : ¬ p → J l Γ Ω nL ad N k n E tgt L st) (kf : p → J l Γ Ω nL ad N k n E q L st) : J l Γ Ω nL ad N k n E pc L (.int (jI (bI p)) :: st) := by
  have hb := bI_bd p
  refine J_if_eq X hd ht hq (by omega) (fun h => kt (fun e => ?_)) (fun h => kf ?_)
  · rw [bI_t e] at h; omega
  · by_cases e : p
    · exact e
    · exact absurd (bI_f e) h
theorem J_if_neB (X : JX Γ Ω own cc nL fr rc rs lo) {p : Prop} [Decidable p] {off : Int} {tgt : Nat} (hd : decode cc pc = .ok (.ifCond .ne off, 3)) (ht : (pc : Int) + off = (tgt : Int)) (hq : pc + 3 = q) (kt : p → J l Γ Ω nL ad N k n E tgt L st) (kf : ¬ p → J l Γ Ω nL ad N k n E q L st) : J l Γ Ω nL ad N k n E pc L (.int (jI (bI p)) :: st) := by
  have hb := bI_bd p
  refine J_if_ne X hd ht hq (by omega) (fun h => kt ?_) (fun h => kf (fun e => ?_))
  · by_cases e : p
    · exact e
    · exact absurd (bI_f e) h
  · rw [bI_t e] at h; omega
theorem J_tableIn (X : JX Γ Ω own cc nL fr rc rs lo) {a v dflt lo0 hi0 off : Int} {offs : Array Int} {len tgt : Nat} (hd : decode cc pc = .ok (.tableswitch dflt lo0 hi0 offs, len)) (hz : a = v) (h1 : lo0 ≤ v ∧ v ≤ hi0 ∧ -2147483648 ≤ v ∧ v < 2147483648) (ho : offs[(v - lo0).toNat]? = some off) (ht : (pc : Int) + off = (tgt : Int)) (kk : J l Γ Ω nL ad N k n E tgt L st) : J l Γ Ω nL ad N k n E pc L (.int (jI a) :: st) := by
  subst hz
  refine fun H locs ls hl hw hS => lv_tableIn X.1 X.2.1 hd ?_ ?_ (off := off) ?_ ht (kk H locs ls hl hw hS) <;> rw [jI_toInt h1.2.2]
  · omega
  · omega
  · exact ho
theorem J_tableOut (X : JX Γ Ω own cc nL fr rc rs lo) {a dflt lo0 hi0 : Int} {offs : Array Int} {len tgt : Nat} (hd : decode cc pc = .ok (.tableswitch dflt lo0 hi0 offs, len)) (ha : -2147483648 ≤ a ∧ a < 2147483648) (h1 : a < lo0 ∨ hi0 < a) (ht : (pc : Int) + dflt = (tgt : Int)) (kk : J l Γ Ω nL ad N k n E tgt L st) : J l Γ Ω nL ad N k n E pc L (.int (jI a) :: st) := by
  refine fun H locs ls hl hw hS => lv_tableOut X.1 X.2.1 hd ?_ ht (kk H locs ls hl hw hS)
  rw [jI_toInt ha]; exact h1
theorem J_lookup (X : JX Γ Ω own cc nL fr rc rs lo) {a dflt off : Int} {ps : Array (Int × Int)} {len tgt : Nat} (hd : decode cc pc = .ok (.lookupswitch dflt ps, len)) (hp : (ps.toList.zip (ps.toList.drop 1)).all (fun (a, next) => a.1 < next.1) = true) (ha : -2147483648 ≤ a ∧ a < 2147483648) (ho : Op.lookupswitch.offset ps.toList dflt a = off) (ht : (pc : Int) + off = (tgt : Int)) (kk : J l Γ Ω nL ad N k n E tgt L st) : J l Γ Ω nL ad N k n E pc L (.int (jI a) :: st) := by
  refine fun H locs ls hl hw hS => lv_lookup X.1 X.2.1 hd hp (off := off) ?_ ht (kk H locs ls hl hw hS)
  rw [jI_toInt ha]; exact ho
theorem J_lcmp (X : JX Γ Ω own cc nL fr rc rs lo) {a b : Int} (hd : decode cc pc = .ok (.lcmp, 1)) (hq : pc + 1 = q) (ha : -9223372036854775808 ≤ a ∧ a < 9223372036854775808) (hb : -9223372036854775808 ≤ b ∧ b < 9223372036854775808) (kk : ∀ w : Int, ((w = 1 ∧ b < a) ∨ (w = 0 ∧ a = b) ∨ (w = -1 ∧ a < b)) → J l Γ Ω nL ad N k n E q L (.int (jI w) :: st)) : J l Γ Ω nL ad N k n E pc L (.long (jL b) :: .long (jL a) :: st) := by
  subst hq
  intro H locs ls hl hw hS
  refine W.lcmp X.1 X.2.1 hd ?_
  have e : lg_cmp (jL a) (jL b) = jI (if b < a then 1 else if a = b then 0 else -1) := by
    unfold lg_cmp
    have h1 : (jL a > jL b) ↔ b < a := jL_lt hb ha
    by_cases c1 : b < a
    · rw [if_pos (h1.mpr c1), if_pos c1]; rfl
    · rw [if_neg (fun z => c1 (h1.mp z)), if_neg c1]
      by_cases c2 : a = b
      · subst c2
        rw [if_pos rfl, if_pos rfl]; rfl
      · rw [if_neg (fun z => c2 ?_), if_neg c2]; rfl
        have := congrArg Int64.toInt z
        rwa [jL_toInt ha, jL_toInt hb] at this
  rw [e]
  refine kk _ ?_ H locs ls hl hw hS
  by_cases c1 : b < a
  · rw [if_pos c1]; exact Or.inl ⟨rfl, c1⟩
  · rw [if_neg c1]
    by_cases c2 : a = b
    · rw [if_pos c2]; exact Or.inr (Or.inl ⟨rfl, c2⟩)
    · rw [if_neg c2]; exact Or.inr (Or.inr ⟨rfl, by omega⟩)
theorem J_iret (X : JX Γ Ω own cc nL fr rc rs lo) {mc ms : Nat} {post : Option Value → (Nat → va_E) → Prop} {x : Int32} (R : JR Γ Ω (some .int) mc ms ad N post) (hd : decode cc pc = .ok (.ireturn, 1)) (hp : post (some (.int x)) E) : J l Γ Ω nL ad N mc ms E pc L [.int x] := by
  intro H locs ls hl hw hS
  obtain ⟨h1, h2, h3⟩ := R
  rw [h1]
  exact W.iret X.1 X.2.1 h2 (fun t ht _ => ⟨⟨_, E, rfl, hp, by rw [ht]; exact hw⟩, hS.F ht⟩) hS.2.2 hd h3
theorem J_zret (X : JX Γ Ω own cc nL fr rc rs lo) {mc ms : Nat} {post : Option Value → (Nat → va_E) → Prop} {x : Int32} {ty : FieldType} (R : JR Γ Ω (some ty) mc ms ad N post) (hd : decode cc pc = .ok (.ireturn, 1)) (hn : narrow ty (.int x) = .int x) (hp : post (some (.int x)) E) : J l Γ Ω nL ad N mc ms E pc L [.int x] := by
  intro H locs ls hl hw hS
  obtain ⟨h1, h2, h3⟩ := R
  rw [h1]
  exact W.zret X.1 X.2.1 h2 hn (fun t ht _ => ⟨⟨_, E, rfl, hp, by rw [ht]; exact hw⟩, hS.F ht⟩) hS.2.2 hd h3
theorem J_vret (X : JX Γ Ω own cc nL fr rc rs lo) {mc ms : Nat} {post : Option Value → (Nat → va_E) → Prop} (R : JR Γ Ω none mc ms ad N post) (hd : decode cc pc = .ok (.return_, 1)) (hp : post none E) : J l Γ Ω nL ad N mc ms E pc L [] := by
  intro H locs ls hl hw hS
  obtain ⟨h1, h2, h3⟩ := R
  rw [h1]
  exact W.vret X.1 X.2.1 h2 (fun t ht _ => ⟨⟨_, E, rfl, hp, by rw [ht]; exact hw⟩, hS.F ht⟩) hS.2.2 hd h3
theorem J_aret (X : JX Γ Ω own cc nL fr rc rs lo) {mc ms a : Nat} {C : String} {post : Option Value → (Nat → va_E) → Prop} (R : JR Γ Ω (some (.object C)) mc ms ad N post) (hd : decode cc pc = .ok (.areturn, 1)) (hp : post (some (.ref a)) E) : J l Γ Ω nL ad N mc ms E pc L [.ref a] := by
  intro H locs ls hl hw hS
  obtain ⟨h1, h2, h3⟩ := R
  rw [h1]
  exact W.aret X.1 X.2.1 h2 (Or.inl ⟨_, rfl⟩) (Or.inr ⟨_, rfl⟩) (fun t ht _ => ⟨⟨_, E, rfl, hp, by rw [ht]; exact hw⟩, hS.F ht⟩) hS.2.2 hd h3
theorem nrw_z {b : Int} (h : b = 0 ∨ b = 1) : narrow .boolean (.int (jI b)) = .int (jI b) := by
  rcases h with rfl | rfl <;> rfl
end JBranch
section JHeap
variable {l : Launch} {Γ : JG} {Ω : JO} {nL : Nat} {ad : Nat → Nat} {N k n : Nat} {E : Nat → va_E} {pc q : Nat} {L : List (Option Value)} {st : List Value} {own : String} {cc : ByteArray} {fr rc rs lo : Nat}
theorem jup_self {E : Nat → va_E} {i : Nat} {e : va_E} : va_up E i e i = e := by simp [va_up]
theorem jup_ne {E : Nat → va_E} {i : Nat} {e : va_E} : ∀ j, j ≠ i → va_up E i e j = E j := fun j h => by simp [va_up, h]
theorem jat {i : Nat} (hi : i < N) {e : va_E} (he : E i = e) : (jws ad N E)[i]? = some (ad i, e) := by rw [jws_get hi, he]
theorem jset {H : Heap} {i : Nat} (hi : i < N) {e : va_E} (h1 : va_P Γ.2.1 vwCl ((jws ad N E).set i (ad i, e)) H) (h2 : va_D (jA Γ) ((jws ad N E).set i (ad i, e))) : jw Γ ad N (va_up E i e) H := by
  rw [jws_set hi] at h1 h2
  exact ⟨h1, h2⟩
theorem J_get (X : JX Γ Ω own cc nL fr rc rs lo) {idx ci M f i : Nat} {C : String} {T : u_T} {fs : List Value} {v : Value} (hd : decode cc pc = .ok (.getfield idx, 3)) (hf : jfl own idx ci C T M f) (he : E i = .inr (ci, fs)) (hi : i < N) (hv : fs[f]? = some v) (hq : pc + 3 = q) (kk : J l Γ Ω nL ad N k n E q L (v :: st)) : J l Γ Ω nL ad N k n E pc L (.ref (ad i) :: st) := by
  subst hq
  intro H locs ls hl hw hS
  obtain ⟨hx, hb, hml, hown, hts, henv, hR⟩ := X
  obtain ⟨hlk, ⟨hc, hin, -, -⟩, hM⟩ := hf
  rcases hlk with h | ⟨host, h⟩
  · exact va_get (q0 := i) hx hb hts hin hown henv.1 hw.1 (he := jat hi he) hc f hM (hts _ h) (fun _ z => z) hv hd (kk H locs ls hl hw hS)
  · exact va_getN (q0 := i) hx hb hts hin hown henv.1 hw.1 (he := jat hi he) hc f hM (va_Nw.use rfl (henv.2.1 _ h)) (fun _ z => z) hv hd (kk H locs ls hl hw hS)
theorem J_put (X : JX Γ Ω own cc nL fr rc rs lo) {idx ci M f i : Nat} {C : String} {T : u_T} {fs : List Value} {v : Value} {ty : FieldType} (hd : decode cc pc = .ok (.putfield idx, 3)) (hf : jfl own idx ci C T M f) (hfin : (T f).2.2.2 = false) (hty : parseFieldDescriptor (T f).2.2.1 = some ty) (hn : narrow ty v = v) (hfit : fits ty v = true) (he : E i = .inr (ci, fs)) (hi : i < N) (hlen : f < fs.length) (hq : pc + 3 = q) (kk : ∀ E' : Nat → va_E, E' i = .inr (ci, fs.set f v) → (∀ j, j ≠ i → E' j = E j) → J l Γ Ω nL ad N k n E' q L st) : J l Γ Ω nL ad N k n E pc L (v :: .ref (ad i) :: st) := by
  subst hq
  intro H locs ls hl hw hS
  obtain ⟨hx, hb, hml, hown, hts, henv, hR⟩ := X
  obtain ⟨hlk, ⟨hc, hin, ⟨ty0, hty0⟩, hnm⟩, hM⟩ := hf
  rcases hlk with h | ⟨host, h⟩
  · exact va_put (q0 := i) hx hb hts hin ty0 hty0 hnm hown henv.1 hw.1 hw.2 hS (he := jat hi he) hc f hM (hts _ h) (fun _ z => z) hfin hty hn hfit hlen hd (fun H1 locs1 p1 d1 s1 => kk _ jup_self jup_ne H1 locs1 ls hl (jset hi p1 d1) s1)
  · exact va_putN (q0 := i) hx hb hts hin ty0 hty0 hnm hown henv.1 hw.1 hw.2 hS (he := jat hi he) hc f hM (va_Nw.use rfl (henv.2.1 _ h)) (fun _ z => z) hfin hty hn hfit hlen hd (fun H1 locs1 p1 d1 s1 => kk _ jup_self jup_ne H1 locs1 ls hl (jset hi p1 d1) s1)
theorem J_putF (X : JX Γ Ω own cc nL fr rc rs lo) {idx ci M f i : Nat} {C : String} {T : u_T} {fs : List Value} {v : Value} {ty : FieldType} (hd : decode cc pc = .ok (.putfield idx, 3)) (hf : Cond.fieldLink own idx (T f).1 (T f).2.1 (T f).2.2.1 ∈ tw ∧ jcl ci C T M ∧ f < M) (hfin : (T f).2.2.2 = true) (hinit : Ω.2.2.2.2.2.2.2.1.name = "<init>") (hdecl : (T f).1 = own) (hty : parseFieldDescriptor (T f).2.2.1 = some ty) (hn : narrow ty v = v) (hfit : fits ty v = true) (he : E i = .inr (ci, fs)) (hi : i < N) (hlen : f < fs.length) (hq : pc + 3 = q) (kk : ∀ E' : Nat → va_E, E' i = .inr (ci, fs.set f v) → (∀ j, j ≠ i → E' j = E j) → J l Γ Ω nL ad N k n E' q L st) : J l Γ Ω nL ad N k n E pc L (v :: .ref (ad i) :: st) := by
  subst hq
  intro H locs ls hl hw hS
  obtain ⟨hx, hb, hml, hown, hts, henv, hR⟩ := X
  obtain ⟨h, ⟨hc, hin, ⟨ty0, hty0⟩, hnm⟩, hM⟩ := hf
  exact va_putF (q0 := i) hx hb hts hin ty0 hty0 hnm hown henv.1 hw.1 hw.2 hS (he := jat hi he) hc f hM (hts _ h) (fun _ z => z) hfin hinit hdecl hty hn hfit hlen hd (fun H1 locs1 p1 d1 s1 => kk _ jup_self jup_ne H1 locs1 ls hl (jset hi p1 d1) s1)
theorem J_iald (X : JX Γ Ω own cc nL fr rc rs lo) {i M : Nat} {f : Int → Int} {z : Int} (hd : decode cc pc = .ok (.iaload, 1)) (he : E i = aI Γ M f) (hi : i < N) (hz : 0 ≤ z ∧ z < (M : Int)) (hM : (M : Int) < 2147483648) (hq : pc + 1 = q) (kk : J l Γ Ω nL ad N k n E q L (.int (jI (f z)) :: st)) : J l Γ Ω nL ad N k n E pc L (.int (jI z) :: .ref (ad i) :: st) := by
  subst hq
  intro H locs ls hl hw hS
  refine va_iald X.1 X.2.1 X.2.2.2.2.2.1.1 hw.1 i 0 (jat hi he) rfl (jI_in hz hM) hd ?_
  rw [jI_clamp (by omega), show ((z.toNat : Nat) : Int) = z by omega]
  exact kk H locs ls hl hw hS
theorem J_zald (X : JX Γ Ω own cc nL fr rc rs lo) {i M : Nat} {f : Int → Int} {z : Int} (hd : decode cc pc = .ok (.baload, 1)) (he : E i = aZ Γ M f) (hi : i < N) (hz : 0 ≤ z ∧ z < (M : Int)) (hM : (M : Int) < 2147483648) (hq : pc + 1 = q) (kk : J l Γ Ω nL ad N k n E q L (.int (jI (f z)) :: st)) : J l Γ Ω nL ad N k n E pc L (.int (jI z) :: .ref (ad i) :: st) := by
  subst hq
  intro H locs ls hl hw hS
  refine va_zald X.1 X.2.1 X.2.2.2.2.2.1.1 hw.1 i 1 (jat hi he) rfl (jI_in hz hM) hd ?_
  rw [jI_clamp (by omega), show ((z.toNat : Nat) : Int) = z by omega]
  exact kk H locs ls hl hw hS
theorem J_iast (X : JX Γ Ω own cc nL fr rc rs lo) {i M : Nat} {f : Int → Int} {z v : Int} (hd : decode cc pc = .ok (.iastore, 1)) (he : E i = aI Γ M f) (hi : i < N) (hz : 0 ≤ z ∧ z < (M : Int)) (hM : (M : Int) < 2147483648) (hq : pc + 1 = q) (kk : ∀ E' : Nat → va_E, E' i = aI Γ M (iu f z v) → (∀ j, j ≠ i → E' j = E j) → J l Γ Ω nL ad N k n E' q L st) : J l Γ Ω nL ad N k n E pc L (.int (jI v) :: .int (jI z) :: .ref (ad i) :: st) := by
  subst hq
  intro H locs ls hl hw hS
  refine va_iast X.1 X.2.1 X.2.2.2.2.2.1.1 hw.1 hw.2 hS i 0 (jat hi he) rfl (jI_in hz hM) hd (fun H1 locs1 p1 d1 s1 => ?_)
  rw [jI_clamp (by omega), iu_upd hz.1] at p1 d1
  exact kk _ jup_self jup_ne H1 locs1 ls hl (jset hi p1 d1) s1
end JHeap
