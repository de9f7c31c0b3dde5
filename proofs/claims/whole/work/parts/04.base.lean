/-! THE WALK WITH A HEAP AS A FUNCTION: V, its rows are below -/
abbrev Ob : Type := (Nat × vp_A) ⊕ (Nat × List Value)
abbrev Hp : Type := Nat → Option Ob
def up (h : Hp) (a : Nat) (o : Ob) : Hp := fun b => if b = a then some o else h b
theorem up_s {h : Hp} {a : Nat} {o : Ob} : up h a o a = some o := by simp [up]
theorem up_n {h : Hp} {a b : Nat} {o : Ob} (n : b ≠ a) : up h a o b = h b := by simp [up, n]
abbrev Yd : Type := MethodName × ByteArray × Nat × Option FieldType
def co (aC : Nat → ClassId) (o : Ob) : va_E := match o with
  | .inl x => .inl (aC x.1, x.2)
  | .inr y => .inr y
def BG : List Cond := lw_tbl.filter goodWord
theorem bg_of {w : Cond} (i : Nat) (h : tables_1[i]? = some w ∧ goodWord w = true) : w ∈ BG :=
  List.mem_filter.mpr ⟨List.mem_append_right _ (List.mem_of_getElem? h.1), h.2⟩
theorem bg_pr {w : Cond} (i : Nat) (h : (k2_sels lw_privs)[i]? = some w ∧ goodWord w = true) : w ∈ BG :=
  List.mem_filter.mpr ⟨List.mem_append_left _ (List.mem_of_getElem? h.1), h.2⟩
theorem bg_good (big : List Cond) : GoodIn BG BG := fun w h => ⟨h, good_of_word (List.mem_filter.mp h).2⟩
def NW : List Cond := [.methodLinkNest "BurntEnds" 17 ⟨"BurntEnds$TextReading", "<init>", "()V"⟩ "BurntEnds",
  .methodLinkNest "BurntEnds$TextReading" 17 ⟨"BurntEnds$Tokens", "<init>", "()V"⟩ "BurntEnds",
  .methodLinkNest "BurntEnds$TextReading" 24 ⟨"BurntEnds$Told", "<init>", "()V"⟩ "BurntEnds",
  .methodLinkNest "BurntEnds$Told" 39 ⟨"BurntEnds$Laws", "<init>", "()V"⟩ "BurntEnds",
  .methodLinkNest "BurntEnds" 24 ⟨"BurntEnds$Told", "<init>", "()V"⟩ "BurntEnds",
  .methodLinkNest "BurntEnds" 34 ⟨"BurntEnds$Candles", "<init>", "()V"⟩ "BurntEnds",
  .methodLinkNest "BurntEnds" 47 ⟨"BurntEnds$Course", "<init>", "()V"⟩ "BurntEnds",
  .methodLinkNest "BurntEnds$Course" 11 ⟨"BurntEnds$Told", "<init>", "()V"⟩ "BurntEnds",
  .methodLinkNest "BurntEnds" 54 ⟨"BurntEnds$Undoing", "<init>", "()V"⟩ "BurntEnds",
  .methodLinkNest "BurntEnds" 61 ⟨"BurntEnds$Facts", "<init>", "()V"⟩ "BurntEnds",
  .methodLinkNest "BurntEnds" 68 ⟨"BurntEnds$Pair", "<init>", "()V"⟩ "BurntEnds",
  .methodLinkNest "BurntEnds" 75 ⟨"BurntEnds$Turns", "<init>", "()V"⟩ "BurntEnds",
  .fieldLinkNest "BurntEnds$Tokens" 66 "BurntEnds" "WORDS" "[I" "BurntEnds",
  .methodLinkNest "BurntEnds$Course" 65 ⟨"BurntEnds", "within", "(JI)I"⟩ "BurntEnds"]
theorem nw_warm {s U : State} (hW : s.WarmedH U.vm) {w : Cond} (hw : w ∈ NW) (h : va_Nw w s) : va_Nw w U := by
  simp only [NW, List.mem_cons, List.not_mem_nil, or_false] at hw
  rcases hw with rfl | rfl | rfl | rfl | rfl | rfl | rfl | rfl | rfl | rfl | rfl | rfl | rfl | rfl <;> first | exact va_Nw.warmM hW h | exact va_Nw.warmF hW h
theorem nw_same {u U : State} (hv : u.vm = U.vm) {w : Cond} (hw : w ∈ NW) (h : va_Nw w u) : va_Nw w U := by
  simp only [NW, List.mem_cons, List.not_mem_nil, or_false] at hw
  rcases hw with rfl | rfl | rfl | rfl | rfl | rfl | rfl | rfl | rfl | rfl | rfl | rfl | rfl | rfl <;> exact va_Nw.same rfl hv h
def tysOf (aC : Nat → ClassId) : List (ClassId × FieldType) := [(aC 0, .int), (aC 1, .long), (aC 2, .boolean)]
def rmO (d mc ms : Nat) : Room := { frames := d, cells := mc, slots := ms, locals := 41 * d }
def wW : List Int32 := [437714944, 358028288, 412328576, 80206848, 408358912, 153131648, 642945024, 404455424, 89733120, 247979008, 609322380, 408113152, 412745728, 358028896, 781652768, 687341568, 419135488, 284870656, 522190848, 48365568, 486146048]
def roLen : List Nat := [14, 12, 102]
def roByt : List (List Int32) := [[110, 111, 32, 115, 117, 99, 104, 32, 112, 101, 114, 115, 111, 110], [110, 111, 32, 115, 117, 99, 104, 32, 119, 104, 97, 116], [109, 97, 110, 32, 106, 117, 110, 101, 32, 108, 105, 103, 104, 116, 32, 98, 108, 111, 119, 32, 108, 101, 110, 100, 32, 100, 114, 97, 102, 116, 32, 115, 101, 101, 100, 32, 108, 97, 119, 32, 98, 117, 114, 110, 32, 103, 108, 111, 119, 32, 114, 101, 99, 97, 108, 108, 32, 111, 114, 32, 97, 110, 100, 32, 110, 111, 116, 32, 108, 101, 102, 116, 32, 108, 105, 116, 32, 106, 117, 110, 101, 115, 32, 119, 105, 110, 100, 121, 32, 116, 111, 112, 32, 108, 111, 119, 32, 104, 111, 117, 114, 32]]
def strM : String := "man june light blow lend draft seed law burn glow recall or and not left lit junes windy top low hour "
/-- what nobody writes: the constants' row, String's own flag, the three texts; k: where the row, the model's text and its bytes lie -/
abbrev Kd : Type := Nat × Nat × Nat
def RO (k : Kd) (A : Nat → Prop) (s : State) (H : Heap) : Prop :=
  (va_Z "BurntEnds" "WORDS" "[I" (.ref k.1) A s H ∧ va_T .int k.1 21 (fun j => .int (wW.getD j 0)) A s H) ∧ (va_Z "java/lang/String" "COMPACT_STRINGS" "Z" (.int 1) A s H ∧ va_Zq "jdk/internal/util/Preconditions" "SIOOBE_FORMATTER" "Ljava/util/function/BiFunction;" A s H) ∧
  ∃ (adK adV : Nat → Nat), vk_S 3 roLen roByt adK adV A s H ∧ vk_R "BurntEnds" 126 "no such person" (adK 0) s ∧ vk_R "BurntEnds" 158 "no such what" (adK 1) s ∧ vk_R "BurntEndsModel" 191 strM (adK 2) s ∧ adK 2 = k.2.1 ∧ adV 2 = k.2.2
theorem RO.warm {k : Kd} {A : Nat → Prop} {s U : State} {H : Heap} (hW : s.WarmedH U.vm) (h : RO k A s H) : RO k A U H := by
  obtain ⟨⟨h1, h2⟩, ⟨h3, hz⟩, adK, adV, h4, h5, h6, h7, h8⟩ := h
  exact ⟨⟨h1.moved hW.alike, h2.moved hW.alike⟩, ⟨h3.moved hW.alike, hz.moved hW.alike⟩, adK, adV, h4.moved hW.alike, h5.warm hW, h6.warm hW, h7.warm hW, h8⟩
theorem RO.same {k : Kd} {A : Nat → Prop} {u U : State} {H : Heap} (hv : U.vm = u.vm) (h : RO k A u H) : RO k A U H := by
  have ha : u.vm.Alike U.vm := by rw [hv]; exact Vm.Alike.refl _
  obtain ⟨⟨h1, h2⟩, ⟨h3, hz⟩, adK, adV, h4, h5, h6, h7, h8⟩ := h
  exact ⟨⟨h1.moved ha, h2.moved ha⟩, ⟨h3.moved ha, hz.moved ha⟩, adK, adV, h4.moved ha, h5.same hv, h6.same hv, h7.same hv, h8⟩
theorem RO.kept {k : Kd} {A : Nat → Prop} {U : State} {H H1 : Heap} (h : RO k A U H) (hq : ∀ a : Nat, a < H.size → ¬ A a → H1[a]? = H[a]?) : RO k A U H1 := by
  obtain ⟨⟨h1, h2⟩, ⟨h3, hz⟩, adK, adV, h4, h5⟩ := h
  exact ⟨⟨h1.kept hq, h2.kept hq⟩, ⟨h3.kept hq, hz.kept hq⟩, adK, adV, h4.kept hq, h5⟩
theorem RO.narrow {k : Kd} {A B : Nat → Prop} {U : State} {H : Heap} (h : RO k A U H) (hAB : ∀ q, B q → A q) : RO k B U H := by
  obtain ⟨⟨h1, h2⟩, ⟨h3, hz⟩, adK, adV, h4, h5⟩ := h
  exact ⟨⟨h1.narrow hAB, h2.narrow hAB⟩, ⟨h3.narrow hAB, hz.narrow hAB⟩, adK, adV, h4.narrow hAB, h5⟩
/-- locals by their places: none is 'not known' -/
def Lh (ls : Array Slot) (nL : Nat) (L : List (Option Value)) : Prop := ∃ l, lv_has ls nL l ∧ ∀ (i : Nat) (v : Value), L[i]? = some (some v) → (i, v) ∈ l
theorem Lh.at {ls : Array Slot} {nL : Nat} {L : List (Option Value)} (h : Lh ls nL L) {i : Nat} {v : Value} (hi : L[i]? = some (some v)) : ls[i]? = some (.val v) := by
  obtain ⟨l, h1, h2⟩ := h
  exact h1.2.2 (i, v) (h2 i v hi)
def k2c (a : Option Value) : Option Value := match a with
  | some (.long _) => none
  | some (.double _) => none
  | a => a
theorem k2c_s {a : Option Value} {w : Value} (h : k2c a = some w) : a = some w ∧ ¬ w.category = 2 := by
  cases a with
  | none => cases h
  | some v => cases v <;> simp [k2c] at h <;> subst h <;> simp [Value.category]
def sto1 : Nat → Value → List (Option Value) → List (Option Value)
  | 0, v, _ :: l => some v :: l
  | 1, v, a :: _ :: l => k2c a :: some v :: l
  | n + 2, v, a :: l => a :: sto1 (n + 1) v l
  | _, _, _ => []
def sto2 : Nat → Value → List (Option Value) → List (Option Value)
  | 0, v, _ :: _ :: l => some v :: none :: l
  | 1, v, a :: _ :: _ :: l => k2c a :: some v :: none :: l
  | n + 2, v, a :: l => a :: sto2 (n + 1) v l
  | _, _, _ => []
theorem sto1_s : ∀ (i : Nat) (v : Value) (L : List (Option Value)) (j : Nat) (w : Value), (sto1 i v L)[j]? = some (some w) → (j = i ∧ w = v) ∨ (¬ j = i ∧ ¬ (j + 1 = i ∧ w.category = 2) ∧ L[j]? = some (some w)) := by
  intro i
  induction i with
  | zero =>
    intro v L j w h
    cases L with
    | nil => simp [sto1] at h
    | cons a l =>
      cases j with
      | zero => simp [sto1] at h; exact Or.inl ⟨rfl, h.symm⟩
      | succ j => simp [sto1] at h; exact Or.inr ⟨by omega, by omega, by simpa using h⟩
  | succ i ih =>
    intro v L j w h
    cases i with
    | zero =>
      match L, h with
      | [], h => simp [sto1] at h
      | [a], h => simp [sto1] at h
      | a :: b :: l, h =>
        match j, h with
        | 0, h =>
          simp [sto1] at h
          obtain ⟨h1, h2⟩ := k2c_s h
          exact Or.inr ⟨by omega, fun q => h2 q.2, by simp [h1]⟩
        | 1, h => simp [sto1] at h; exact Or.inl ⟨rfl, h.symm⟩
        | j + 2, h => simp [sto1] at h; exact Or.inr ⟨by omega, by omega, by simpa using h⟩
    | succ i =>
      cases L with
      | nil => simp [sto1] at h
      | cons a l =>
        cases j with
        | zero => simp [sto1] at h; exact Or.inr ⟨by omega, by omega, by simp [h]⟩
        | succ j =>
          simp only [sto1, List.getElem?_cons_succ] at h
          rcases ih v l j w h with ⟨h1, h2⟩ | ⟨h1, h2, h3⟩
          · exact Or.inl ⟨by omega, h2⟩
          · exact Or.inr ⟨by omega, fun q => h2 ⟨by omega, q.2⟩, by simpa using h3⟩
theorem sto2_s : ∀ (i : Nat) (v : Value) (L : List (Option Value)) (j : Nat) (w : Value), (sto2 i v L)[j]? = some (some w) → (j = i ∧ w = v) ∨ (¬ j = i ∧ ¬ j = i + 1 ∧ ¬ (j + 1 = i ∧ w.category = 2) ∧ L[j]? = some (some w)) := by
  intro i
  induction i with
  | zero =>
    intro v L j w h
    match L, h with
    | [], h => simp [sto2] at h
    | [a], h => simp [sto2] at h
    | a :: b :: l, h =>
      match j, h with
      | 0, h => simp [sto2] at h; exact Or.inl ⟨rfl, h.symm⟩
      | 1, h => simp [sto2] at h
      | j + 2, h => simp [sto2] at h; exact Or.inr ⟨by omega, by omega, by omega, by simpa using h⟩
  | succ i ih =>
    intro v L j w h
    cases i with
    | zero =>
      match L, h with
      | [], h => simp [sto2] at h
      | [a], h => simp [sto2] at h
      | [a, b], h => simp [sto2] at h
      | a :: b :: b2 :: l, h =>
        match j, h with
        | 0, h =>
          simp [sto2] at h
          obtain ⟨h1, h2⟩ := k2c_s h
          exact Or.inr ⟨by omega, by omega, fun q => h2 q.2, by simp [h1]⟩
        | 1, h => simp [sto2] at h; exact Or.inl ⟨rfl, h.symm⟩
        | 2, h => simp [sto2] at h
        | j + 3, h => simp [sto2] at h; exact Or.inr ⟨by omega, by omega, by omega, by simpa using h⟩
    | succ i =>
      cases L with
      | nil => simp [sto2] at h
      | cons a l =>
        cases j with
        | zero => simp [sto2] at h; exact Or.inr ⟨by omega, by omega, by omega, by simp [h]⟩
        | succ j =>
          simp only [sto2, List.getElem?_cons_succ] at h
          rcases ih v l j w h with ⟨h1, h2⟩ | ⟨h1, h0, h2, h3⟩
          · exact Or.inl ⟨by omega, h2⟩
          · exact Or.inr ⟨by omega, by omega, fun q => h2 ⟨by omega, q.2⟩, by simpa using h3⟩
theorem Lh.sto1 {ls' : Array Slot} {nL i : Nat} {v : Value} {l : List (Nat × Value)} {L : List (Option Value)} (h2 : ∀ (i : Nat) (v : Value), L[i]? = some (some v) → (i, v) ∈ l) (h : lv_has ls' nL ((i, v) :: l.filter (fun q => !(q.1 == i) && !(q.1 + 1 == i && q.2.category == 2)))) : Lh ls' nL (sto1 i v L) := by
  refine ⟨_, h, fun j w hj => ?_⟩
  rcases sto1_s i v L j w hj with ⟨rfl, rfl⟩ | ⟨a1, a2, a3⟩
  · exact List.mem_cons_self
  · refine List.mem_cons_of_mem _ (List.mem_filter.mpr ⟨h2 j w a3, ?_⟩)
    simp only [Bool.and_eq_true, Bool.not_eq_true', beq_eq_false_iff_ne, ne_eq, Bool.and_eq_false_iff]
    refine ⟨a1, ?_⟩
    rcases Classical.em (j + 1 = i) with q | q
    · exact Or.inr fun z => a2 ⟨q, z⟩
    · exact Or.inl q
theorem Lh.sto2 {ls' : Array Slot} {nL i : Nat} {v : Value} {l : List (Nat × Value)} {L : List (Option Value)} (h2 : ∀ (i : Nat) (v : Value), L[i]? = some (some v) → (i, v) ∈ l) (h : lv_has ls' nL ((i, v) :: l.filter (fun q => !(q.1 == i) && (!(q.1 == i + 1) && !(q.1 + 1 == i && q.2.category == 2))))) : Lh ls' nL (sto2 i v L) := by
  refine ⟨_, h, fun j w hj => ?_⟩
  rcases sto2_s i v L j w hj with ⟨rfl, rfl⟩ | ⟨a1, a0, a2, a3⟩
  · exact List.mem_cons_self
  · refine List.mem_cons_of_mem _ (List.mem_filter.mpr ⟨h2 j w a3, ?_⟩)
    simp only [Bool.and_eq_true, Bool.not_eq_true', beq_eq_false_iff_ne, ne_eq, Bool.and_eq_false_iff]
    refine ⟨a1, a0, ?_⟩
    rcases Classical.em (j + 1 = i) with q | q
    · exact Or.inr fun z => a2 ⟨q, z⟩
    · exact Or.inl q
/-- fewer known locals -/
def leL : List (Option Value) → List (Option Value) → Prop
  | [], _ => True
  | none :: l', _ :: l => leL l' l
  | some v :: l', o :: l => o = some v ∧ leL l' l
  | _ :: _, [] => False
theorem leL_s : ∀ (L' L : List (Option Value)), leL L' L → ∀ (i : Nat) (v : Value), L'[i]? = some (some v) → L[i]? = some (some v) := by
  intro L'
  induction L' with
  | nil => intro L h i v hi; simp at hi
  | cons a l' ih =>
    intro L h i v hi
    cases L with
    | nil => cases a <;> exact h.elim
    | cons o l =>
      cases a with
      | none =>
        cases i with
        | zero => simp at hi
        | succ i => simp only [List.getElem?_cons_succ] at hi ⊢; exact ih l h i v hi
      | some w =>
        obtain ⟨h1, h2⟩ := h
        cases i with
        | zero => simp only [List.getElem?_cons_zero, Option.some.injEq] at hi ⊢; rw [h1, hi]
        | succ i => simp only [List.getElem?_cons_succ] at hi ⊢; exact ih l h2 i v hi
def entA : List Value → List (Option Value)
  | [] => []
  | v :: vs => if v.category = 2 then some v :: none :: entA vs else some v :: entA vs
def padL (n : Nat) (L : List (Option Value)) : List (Option Value) := L ++ List.replicate (n - L.length) none
theorem entA_s : ∀ (vs : List Value) (k i : Nat) (v : Value), (entA vs)[i]? = some (some v) → (k + i, v) ∈ lv_args k vs := by
  intro vs
  induction vs with
  | nil => intro k i v h; simp [entA] at h
  | cons a vs ih =>
    intro k i v h
    unfold entA at h
    unfold lv_args
    by_cases hc : a.category = 2
    · rw [if_pos hc] at h ⊢
      match i, h with
      | 0, h => simp at h; subst h; exact List.mem_cons_self
      | 1, h => simp at h
      | i + 2, h =>
        simp only [List.getElem?_cons_succ] at h
        have := ih (k + 2) i v h
        rw [show k + (i + 2) = k + 2 + i by omega]
        exact List.mem_cons_of_mem _ this
    · rw [if_neg hc] at h ⊢
      match i, h with
      | 0, h => simp at h; subst h; exact List.mem_cons_self
      | i + 1, h =>
        simp only [List.getElem?_cons_succ] at h
        have := ih (k + 1) i v h
        rw [show k + (i + 1) = k + 1 + i by omega]
        exact List.mem_cons_of_mem _ this
theorem padL_s {n i : Nat} {L : List (Option Value)} {v : Value} (h : (padL n L)[i]? = some (some v)) : L[i]? = some (some v) := by
  unfold padL at h
  by_cases hl : i < L.length
  · rwa [List.getElem?_append_left hl] at h
  · rw [List.getElem?_append_right (by omega)] at h
    have := List.getElem?_replicate (n := n - L.length) (a := (none : Option Value)) (i := i - L.length)
    rw [this] at h
    split at h <;> simp at h
theorem Lh.entry {As : List Value} {n : Nat} (h : (lg_sl As).length ≤ n) : Lh ((lg_sl As ++ List.replicate (n - (lg_sl As).length) Slot.unset).toArray) n (padL n (entA As)) :=
  ⟨_, lv_entry As h, fun i v hi => by have := entA_s As 0 i v (padL_s hi); rwa [Nat.zero_add] at this⟩
