/-! OBJECTS: the state of one is (ints, int rows, long rows, references), each by the field's place. A class: (number, width, what the object's fields are, its rows: field, offset, type, length) -/
abbrev St : Type := (Nat → Int32) × (Nat → Nat → Int32) × (Nat → Nat → Int64) × (Nat → Nat)
abbrev Cl : Type := Nat × Nat × (Nat → (Nat → Int32) → (Nat → Nat) → List Value) × List (Nat × Nat × Nat × Nat)
def arO (t n k : Nat) (s : St) : Ob := match t with
  | 1 => .inl (1, n, .inr (.inl (s.2.2.1 k)))
  | t => .inl (t, n, .inl (s.2.1 k))
def isR (c : Cl) (h : Hp) (a : Nat) (s : St) : Prop := h a = some (.inr (c.1, c.2.2.1 a s.1 s.2.2.2)) ∧ ∀ q ∈ c.2.2.2, h (a + q.2.1) = some (arO q.2.2.1 q.2.2.2 q.1 s)
/-- one place of one row is another -/
def uA (f : Nat → Nat → Int32) (k i : Nat) (v : Int32) : Nat → Nat → Int32 := fun j => if j = k then upd (f k) i v else f j
def uJ (f : Nat → Nat → Int64) (k i : Nat) (v : Int64) : Nat → Nat → Int64 := fun j => if j = k then vp_updL (f k) i v else f j
/-- one whole row is another -/
def uR {α : Type} (f : Nat → Nat → α) (k : Nat) (g : Nat → α) : Nat → Nat → α := fun j => if j = k then g else f j
def uN (f : Nat → Nat) (k v : Nat) : Nat → Nat := fun j => if j = k then v else f j
def layOk (c : Cl) : Bool := c.2.2.2.all (fun q => 0 < q.2.1 && q.2.1 < c.2.1 && c.2.2.2.all (fun r => (r.2.1 == q.2.1) == (r.1 == q.1))) && 0 < c.2.1
theorem layOk_in {c : Cl} (ok : layOk c = true) {q : Nat × Nat × Nat × Nat} (hq : q ∈ c.2.2.2) : 0 < q.2.1 ∧ q.2.1 < c.2.1 := by
  unfold layOk at ok
  simp only [Bool.and_eq_true, List.all_eq_true, decide_eq_true_eq] at ok
  exact ⟨(ok.1 q hq).1.1, (ok.1 q hq).1.2⟩
theorem layOk_eq {c : Cl} (ok : layOk c = true) {q r : Nat × Nat × Nat × Nat} (hq : q ∈ c.2.2.2) (hr : r ∈ c.2.2.2) : r.2.1 = q.2.1 ↔ r.1 = q.1 := by
  unfold layOk at ok
  simp only [Bool.and_eq_true, List.all_eq_true, decide_eq_true_eq] at ok
  have h := (ok.1 q hq).2 r hr
  constructor
  · intro e
    rw [e] at h
    simpa using h
  · intro e
    rw [e] at h
    simpa using h
theorem isR.kept {c : Cl} {h h' : Hp} {a : Nat} {s : St} (ok : layOk c = true) (H : isR c h a s) (hk : ∀ b : Nat, a ≤ b → b < a + c.2.1 → h' b = h b) : isR c h' a s := by
  have h0 : 0 < c.2.1 := by
    unfold layOk at ok
    simp only [Bool.and_eq_true, decide_eq_true_eq] at ok
    exact ok.2
  refine ⟨(hk a (Nat.le_refl _) (by omega)).trans H.1, fun q hq => ?_⟩
  have := layOk_in ok hq
  exact (hk _ (by omega) (by omega)).trans (H.2 q hq)
theorem isR.setF {c : Cl} {h h' : Hp} {a : Nat} {s : St} (ok : layOk c = true) (H : isR c h a s) (f : Nat → Int32) (r : Nat → Nat) (e : h' a = some (.inr (c.1, c.2.2.1 a f r))) (o : ∀ b : Nat, b ≠ a → h' b = h b) : isR c h' a (f, s.2.1, s.2.2.1, r) := by
  refine ⟨e, fun q hq => ?_⟩
  have := layOk_in ok hq
  rw [o _ (by omega)]
  exact H.2 q hq
theorem isR.setI {c : Cl} {h h' : Hp} {a : Nat} {s : St} (ok : layOk c = true) (H : isR c h a s) (k : Nat) (v : Int32) (hk : ∀ f r, (c.2.2.1 a f r).set k (.int v) = c.2.2.1 a (upd f k v) r) (e : h' a = some (.inr (c.1, (c.2.2.1 a s.1 s.2.2.2).set k (.int v)))) (o : ∀ b : Nat, b ≠ a → h' b = h b) : isR c h' a (upd s.1 k v, s.2.1, s.2.2.1, s.2.2.2) :=
  isR.setF ok H _ _ (by rw [← hk]; exact e) o
theorem isR.setP {c : Cl} {h h' : Hp} {a : Nat} {s : St} (ok : layOk c = true) (H : isR c h a s) (k : Nat) (v : Nat) (hk : ∀ f r, (c.2.2.1 a f r).set k (.ref v) = c.2.2.1 a f (uN r k v)) (e : h' a = some (.inr (c.1, (c.2.2.1 a s.1 s.2.2.2).set k (.ref v)))) (o : ∀ b : Nat, b ≠ a → h' b = h b) : isR c h' a (s.1, s.2.1, s.2.2.1, uN s.2.2.2 k v) :=
  isR.setF ok H _ _ (by rw [← hk]; exact e) o
theorem isR.setA {c : Cl} {h h' : Hp} {a : Nat} {s : St} (ok : layOk c = true) (H : isR c h a s) {k off t n : Nat} (hq : (k, off, t, n) ∈ c.2.2.2) (ht : ¬ t = 1) (i : Nat) (v : Int32) (e : h' (a + off) = some (.inl (t, n, .inl (upd (s.2.1 k) i v)))) (o : ∀ b : Nat, b ≠ a + off → h' b = h b) : isR c h' a (s.1, uA s.2.1 k i v, s.2.2) := by
  have h1 := layOk_in ok hq
  refine ⟨(o a (by have := h1.1; show ¬ a = a + off; simp only at this; omega)).trans H.1, fun q hq2 => ?_⟩
  have h2 := layOk_eq ok hq hq2
  simp only at h2
  by_cases hk : q.1 = k
  · have e1 := h2.mpr hk
    obtain ⟨qk, qo, qt, qn⟩ := q
    simp only at hk e1
    subst hk
    subst e1
    have e2 := H.2 _ hq
    have e3 := H.2 _ hq2
    rw [show ((qk, qo, qt, qn) : Nat × Nat × Nat × Nat).2.1 = ((qk, qo, t, n) : Nat × Nat × Nat × Nat).2.1 from rfl, e2] at e3
    simp only [Option.some.injEq] at e3
    show h' (a + qo) = _
    rw [e]
    unfold arO at e3 ⊢
    split at e3
    · exact absurd rfl ht
    · split at e3
      · simp at e3
      · rename_i t1 t2 z1 z2
        simp only [Sum.inl.injEq, Prod.mk.injEq] at e3
        obtain ⟨g1, g2, -⟩ := e3
        subst g1
        subst g2
        simp [uA]
  · rw [o _ (fun z => hk (h2.mp (by omega))), H.2 q hq2]
    unfold arO
    split
    · rfl
    · simp [uA, hk]
theorem isR.setAR {c : Cl} {h h' : Hp} {a : Nat} {s : St} (ok : layOk c = true) (H : isR c h a s) {k off t n : Nat} (hq : (k, off, t, n) ∈ c.2.2.2) (ht : ¬ t = 1) (g : Nat → Int32) (e : h' (a + off) = some (.inl (t, n, .inl g))) (o : ∀ b : Nat, b ≠ a + off → h' b = h b) : isR c h' a (s.1, uR s.2.1 k g, s.2.2) := by
  have h1 := layOk_in ok hq
  refine ⟨(o a (by have := h1.1; show ¬ a = a + off; simp only at this; omega)).trans H.1, fun q hq2 => ?_⟩
  have h2 := layOk_eq ok hq hq2
  simp only at h2
  by_cases hk : q.1 = k
  · have e1 := h2.mpr hk
    obtain ⟨qk, qo, qt, qn⟩ := q
    simp only at hk e1
    subst hk
    subst e1
    have e2 := H.2 _ hq
    have e3 := H.2 _ hq2
    rw [show ((qk, qo, qt, qn) : Nat × Nat × Nat × Nat).2.1 = ((qk, qo, t, n) : Nat × Nat × Nat × Nat).2.1 from rfl, e2] at e3
    simp only [Option.some.injEq] at e3
    show h' (a + qo) = _
    rw [e]
    unfold arO at e3 ⊢
    split at e3
    · exact absurd rfl ht
    · split at e3
      · simp at e3
      · rename_i t1 t2 z1 z2
        simp only [Sum.inl.injEq, Prod.mk.injEq] at e3
        obtain ⟨g1, g2, -⟩ := e3
        subst g1
        subst g2
        simp [uR]
  · rw [o _ (fun z => hk (h2.mp (by omega))), H.2 q hq2]
    unfold arO
    split
    · rfl
    · simp [uR, hk]
theorem isR.setJR {c : Cl} {h h' : Hp} {a : Nat} {s : St} (ok : layOk c = true) (H : isR c h a s) {k off n : Nat} (hq : (k, off, 1, n) ∈ c.2.2.2) (g : Nat → Int64) (e : h' (a + off) = some (.inl (1, n, .inr (.inl g)))) (o : ∀ b : Nat, b ≠ a + off → h' b = h b) : isR c h' a (s.1, s.2.1, uR s.2.2.1 k g, s.2.2.2) := by
  have h1 := layOk_in ok hq
  refine ⟨(o a (by have := h1.1; show ¬ a = a + off; simp only at this; omega)).trans H.1, fun q hq2 => ?_⟩
  have h2 := layOk_eq ok hq hq2
  simp only at h2
  by_cases hk : q.1 = k
  · have e1 := h2.mpr hk
    obtain ⟨qk, qo, qt, qn⟩ := q
    simp only at hk e1
    subst hk
    subst e1
    have e2 := H.2 _ hq
    have e3 := H.2 _ hq2
    rw [show ((qk, qo, qt, qn) : Nat × Nat × Nat × Nat).2.1 = ((qk, qo, 1, n) : Nat × Nat × Nat × Nat).2.1 from rfl, e2] at e3
    simp only [Option.some.injEq] at e3
    show h' (a + qo) = _
    rw [e]
    unfold arO at e3 ⊢
    split at e3
    · split at e3
      · simp only [Sum.inl.injEq, Prod.mk.injEq] at e3
        obtain ⟨-, g2, -⟩ := e3
        subst g2
        simp [uR]
      · simp at e3
    · rename_i z; exact absurd rfl z
  · rw [o _ (fun z => hk (h2.mp (by omega))), H.2 q hq2]
    unfold arO
    split
    · simp [uR, hk]
    · rfl
theorem isR.setJ {c : Cl} {h h' : Hp} {a : Nat} {s : St} (ok : layOk c = true) (H : isR c h a s) {k off n : Nat} (hq : (k, off, 1, n) ∈ c.2.2.2) (i : Nat) (v : Int64) (e : h' (a + off) = some (.inl (1, n, .inr (.inl (vp_updL (s.2.2.1 k) i v))))) (o : ∀ b : Nat, b ≠ a + off → h' b = h b) : isR c h' a (s.1, s.2.1, uJ s.2.2.1 k i v, s.2.2.2) := by
  have := isR.setJR ok H hq _ e o
  rwa [show uR s.2.2.1 k (vp_updL (s.2.2.1 k) i v) = uJ s.2.2.1 k i v from rfl] at this
/-- BurntEnds$Candles: 0 people, 1 inches, 2 junes, 3 top, 4 low, 5 lit, 6 seen, 7 hour, 8 glow, 9 idle, 10 number -/
def oX0 (a : Nat) (f : Nat → Int32) (r : Nat → Nat) : List Value := [.int (f 0), .ref (a + 1), .ref (a + 2), .ref (a + 3), .ref (a + 4), .ref (a + 5), .ref (a + 6), .int (f 7), .int (f 8), .int (f 9), .int (f 10)]
def C0 : Cl := (0, 7, oX0, [(1, 1, 0, 6), (2, 2, 1, 6), (3, 3, 0, 6), (4, 4, 0, 6), (5, 5, 0, 6), (6, 6, 0, 6)])
theorem C0_ok : layOk C0 = true := by decide +kernel
theorem C0_in1 : (1, 1, 0, 6) ∈ C0.2.2.2 := by decide +kernel
theorem C0_r1 {h : Hp} {a : Nat} {s : St} (H : isR C0 h a s) : h (a + 1) = some (.inl (0, 6, .inl (s.2.1 1))) := H.2 _ C0_in1
theorem C0_in2 : (2, 2, 1, 6) ∈ C0.2.2.2 := by decide +kernel
theorem C0_r2 {h : Hp} {a : Nat} {s : St} (H : isR C0 h a s) : h (a + 2) = some (.inl (1, 6, .inr (.inl (s.2.2.1 2)))) := H.2 _ C0_in2
theorem C0_in3 : (3, 3, 0, 6) ∈ C0.2.2.2 := by decide +kernel
theorem C0_r3 {h : Hp} {a : Nat} {s : St} (H : isR C0 h a s) : h (a + 3) = some (.inl (0, 6, .inl (s.2.1 3))) := H.2 _ C0_in3
theorem C0_in4 : (4, 4, 0, 6) ∈ C0.2.2.2 := by decide +kernel
theorem C0_r4 {h : Hp} {a : Nat} {s : St} (H : isR C0 h a s) : h (a + 4) = some (.inl (0, 6, .inl (s.2.1 4))) := H.2 _ C0_in4
theorem C0_in5 : (5, 5, 0, 6) ∈ C0.2.2.2 := by decide +kernel
theorem C0_r5 {h : Hp} {a : Nat} {s : St} (H : isR C0 h a s) : h (a + 5) = some (.inl (0, 6, .inl (s.2.1 5))) := H.2 _ C0_in5
theorem C0_in6 : (6, 6, 0, 6) ∈ C0.2.2.2 := by decide +kernel
theorem C0_r6 {h : Hp} {a : Nat} {s : St} (H : isR C0 h a s) : h (a + 6) = some (.inl (0, 6, .inl (s.2.1 6))) := H.2 _ C0_in6
/-- BurntEnds$Course: 0 told, 1 wind, 2 unburnt, 3 noBlows, 4 noBurnLaw -/
def oX1 (a : Nat) (f : Nat → Int32) (r : Nat → Nat) : List Value := [.ref (r 0), .int (f 1), .int (f 2), .int (f 3), .int (f 4)]
def C1 : Cl := (1, 1, oX1, [])
theorem C1_ok : layOk C1 = true := by decide +kernel
/-- BurntEnds$Deeds: 0 size, 1 most, 2 men, 3 ends, 4 hours -/
def oX2 (a : Nat) (f : Nat → Int32) (r : Nat → Nat) : List Value := [.int (f 0), .int (f 1), .ref (a + 1), .ref (a + 2), .ref (a + 3)]
def C2 : Cl := (2, 4, oX2, [(2, 1, 0, 12), (3, 2, 0, 12), (4, 3, 0, 12)])
theorem C2_ok : layOk C2 = true := by decide +kernel
theorem C2_in2 : (2, 1, 0, 12) ∈ C2.2.2.2 := by decide +kernel
theorem C2_r2 {h : Hp} {a : Nat} {s : St} (H : isR C2 h a s) : h (a + 1) = some (.inl (0, 12, .inl (s.2.1 2))) := H.2 _ C2_in2
theorem C2_in3 : (3, 2, 0, 12) ∈ C2.2.2.2 := by decide +kernel
theorem C2_r3 {h : Hp} {a : Nat} {s : St} (H : isR C2 h a s) : h (a + 2) = some (.inl (0, 12, .inl (s.2.1 3))) := H.2 _ C2_in3
theorem C2_in4 : (4, 3, 0, 12) ∈ C2.2.2.2 := by decide +kernel
theorem C2_r4 {h : Hp} {a : Nat} {s : St} (H : isR C2 h a s) : h (a + 3) = some (.inl (0, 12, .inl (s.2.1 4))) := H.2 _ C2_in4
/-- BurntEnds$Facts: 0 size, 1 knownOf, 2 hours, 3 men, 4 inches, 5 isLeft, 6 strikes -/
def oX3 (a : Nat) (f : Nat → Int32) (r : Nat → Nat) : List Value := [.int (f 0), .int (f 1), .ref (a + 1), .ref (a + 2), .ref (a + 3), .ref (a + 4), .ref (a + 5)]
def C3 : Cl := (3, 6, oX3, [(2, 1, 0, 24), (3, 2, 0, 24), (4, 3, 0, 24), (5, 4, 0, 24), (6, 5, 0, 24)])
theorem C3_ok : layOk C3 = true := by decide +kernel
theorem C3_in2 : (2, 1, 0, 24) ∈ C3.2.2.2 := by decide +kernel
theorem C3_r2 {h : Hp} {a : Nat} {s : St} (H : isR C3 h a s) : h (a + 1) = some (.inl (0, 24, .inl (s.2.1 2))) := H.2 _ C3_in2
theorem C3_in3 : (3, 2, 0, 24) ∈ C3.2.2.2 := by decide +kernel
theorem C3_r3 {h : Hp} {a : Nat} {s : St} (H : isR C3 h a s) : h (a + 2) = some (.inl (0, 24, .inl (s.2.1 3))) := H.2 _ C3_in3
theorem C3_in4 : (4, 3, 0, 24) ∈ C3.2.2.2 := by decide +kernel
theorem C3_r4 {h : Hp} {a : Nat} {s : St} (H : isR C3 h a s) : h (a + 3) = some (.inl (0, 24, .inl (s.2.1 4))) := H.2 _ C3_in4
theorem C3_in5 : (5, 4, 0, 24) ∈ C3.2.2.2 := by decide +kernel
theorem C3_r5 {h : Hp} {a : Nat} {s : St} (H : isR C3 h a s) : h (a + 4) = some (.inl (0, 24, .inl (s.2.1 5))) := H.2 _ C3_in5
theorem C3_in6 : (6, 5, 0, 24) ∈ C3.2.2.2 := by decide +kernel
theorem C3_r6 {h : Hp} {a : Nat} {s : St} (H : isR C3 h a s) : h (a + 5) = some (.inl (0, 24, .inl (s.2.1 6))) := H.2 _ C3_in6
/-- BurntEnds$Laws: 0 knots, 1 placed, 2 kinds, 3 numbers, 4 from, 5 to, 6 values -/
def oX4 (a : Nat) (f : Nat → Int32) (r : Nat → Nat) : List Value := [.int (f 0), .int (f 1), .ref (a + 1), .ref (a + 2), .ref (a + 3), .ref (a + 4), .ref (a + 5)]
def C4 : Cl := (4, 6, oX4, [(2, 1, 0, 64), (3, 2, 0, 64), (4, 3, 0, 3), (5, 4, 0, 3), (6, 5, 1, 64)])
theorem C4_ok : layOk C4 = true := by decide +kernel
theorem C4_in2 : (2, 1, 0, 64) ∈ C4.2.2.2 := by decide +kernel
theorem C4_r2 {h : Hp} {a : Nat} {s : St} (H : isR C4 h a s) : h (a + 1) = some (.inl (0, 64, .inl (s.2.1 2))) := H.2 _ C4_in2
theorem C4_in3 : (3, 2, 0, 64) ∈ C4.2.2.2 := by decide +kernel
theorem C4_r3 {h : Hp} {a : Nat} {s : St} (H : isR C4 h a s) : h (a + 2) = some (.inl (0, 64, .inl (s.2.1 3))) := H.2 _ C4_in3
theorem C4_in4 : (4, 3, 0, 3) ∈ C4.2.2.2 := by decide +kernel
theorem C4_r4 {h : Hp} {a : Nat} {s : St} (H : isR C4 h a s) : h (a + 3) = some (.inl (0, 3, .inl (s.2.1 4))) := H.2 _ C4_in4
theorem C4_in5 : (5, 4, 0, 3) ∈ C4.2.2.2 := by decide +kernel
theorem C4_r5 {h : Hp} {a : Nat} {s : St} (H : isR C4 h a s) : h (a + 4) = some (.inl (0, 3, .inl (s.2.1 5))) := H.2 _ C4_in5
theorem C4_in6 : (6, 5, 1, 64) ∈ C4.2.2.2 := by decide +kernel
theorem C4_r6 {h : Hp} {a : Nat} {s : St} (H : isR C4 h a s) : h (a + 5) = some (.inl (1, 64, .inr (.inl (s.2.2.1 6)))) := H.2 _ C4_in6
/-- BurntEnds$Pair: 0 fewest -/
def oX5 (a : Nat) (f : Nat → Int32) (r : Nat → Nat) : List Value := [.ref (a + 1)]
def C5 : Cl := (5, 2, oX5, [(0, 1, 0, 61)])
theorem C5_ok : layOk C5 = true := by decide +kernel
theorem C5_in0 : (0, 1, 0, 61) ∈ C5.2.2.2 := by decide +kernel
theorem C5_r0 {h : Hp} {a : Nat} {s : St} (H : isR C5 h a s) : h (a + 1) = some (.inl (0, 61, .inl (s.2.1 0))) := H.2 _ C5_in0
/-- BurntEnds$TextReading: 0 wrong, 1 wrongPlace, 2 tokens, 3 told, 4 waiting, 5 waits, 6 open -/
def oX6 (a : Nat) (f : Nat → Int32) (r : Nat → Nat) : List Value := [.int (f 0), .int (f 1), .ref (a + 1), .ref (r 3), .ref (a + 22), .int (f 5), .int (f 6)]
def C6 : Cl := (6, 23, oX6, [(4, 22, 0, 72)])
theorem C6_ok : layOk C6 = true := by decide +kernel
theorem C6_kept {h h' : Hp} {a : Nat} {s : St} (H : isR C6 h a s) (e0 : h' a = h a) (e22 : h' (a + 22) = h (a + 22)) : isR C6 h' a s := by
  refine ⟨e0.trans H.1, fun q hq => ?_⟩
  have hq2 := H.2 q hq
  simp only [C6, List.mem_cons, List.not_mem_nil, or_false] at hq
  rcases hq with rfl
  · exact e22.trans hq2
theorem C6_in4 : (4, 22, 0, 72) ∈ C6.2.2.2 := by decide +kernel
theorem C6_r4 {h : Hp} {a : Nat} {s : St} (H : isR C6 h a s) : h (a + 22) = some (.inl (0, 72, .inl (s.2.1 4))) := H.2 _ C6_in4
/-- BurntEnds$Tokens: 0 bytes, 1 length, 2 at, 3 kind, 4 place, 5 value -/
def oX7 (a : Nat) (f : Nat → Int32) (r : Nat → Nat) : List Value := [.ref (r 0), .int (f 1), .int (f 2), .int (f 3), .int (f 4), .int (f 5)]
def C7 : Cl := (7, 1, oX7, [])
theorem C7_ok : layOk C7 = true := by decide +kernel
/-- BurntEnds$Told: 0 people, 1 names, 2 inches, 3 junes, 4 lendersOf, 5 junesTold, 6 lendsTold, 7 lights, 8 blows, 9 laws, 10 draft, 11 seed, 12 hasDraft, 13 hasSeed -/
def oX8 (a : Nat) (f : Nat → Int32) (r : Nat → Nat) : List Value := [.int (f 0), .ref (a + 1), .ref (a + 2), .ref (a + 3), .ref (a + 4), .int (f 5), .int (f 6), .ref (a + 5), .ref (a + 9), .ref (a + 13), .int (f 10), .int (f 11), .int (f 12), .int (f 13)]
def C8 : Cl := (8, 5, oX8, [(1, 1, 0, 6), (2, 2, 0, 6), (3, 3, 1, 6), (4, 4, 0, 6)])
theorem C8_ok : layOk C8 = true := by decide +kernel
theorem C8_in1 : (1, 1, 0, 6) ∈ C8.2.2.2 := by decide +kernel
theorem C8_r1 {h : Hp} {a : Nat} {s : St} (H : isR C8 h a s) : h (a + 1) = some (.inl (0, 6, .inl (s.2.1 1))) := H.2 _ C8_in1
theorem C8_in2 : (2, 2, 0, 6) ∈ C8.2.2.2 := by decide +kernel
theorem C8_r2 {h : Hp} {a : Nat} {s : St} (H : isR C8 h a s) : h (a + 2) = some (.inl (0, 6, .inl (s.2.1 2))) := H.2 _ C8_in2
theorem C8_in3 : (3, 3, 1, 6) ∈ C8.2.2.2 := by decide +kernel
theorem C8_r3 {h : Hp} {a : Nat} {s : St} (H : isR C8 h a s) : h (a + 3) = some (.inl (1, 6, .inr (.inl (s.2.2.1 3)))) := H.2 _ C8_in3
theorem C8_in4 : (4, 4, 0, 6) ∈ C8.2.2.2 := by decide +kernel
theorem C8_r4 {h : Hp} {a : Nat} {s : St} (H : isR C8 h a s) : h (a + 4) = some (.inl (0, 6, .inl (s.2.1 4))) := H.2 _ C8_in4
/-- BurntEnds$Turns: 0 more, 1 move, 2 gains, 3 now, 4 oneFewer, 5 twoFewer -/
def oX9 (a : Nat) (f : Nat → Int32) (r : Nat → Nat) : List Value := [.int (f 0), .int (f 1), .ref (a + 1), .ref (a + 2), .ref (a + 3), .ref (a + 4)]
def C9 : Cl := (9, 5, oX9, [(2, 1, 0, 60), (3, 2, 0, 62), (4, 3, 0, 62), (5, 4, 0, 62)])
theorem C9_ok : layOk C9 = true := by decide +kernel
theorem C9_in2 : (2, 1, 0, 60) ∈ C9.2.2.2 := by decide +kernel
theorem C9_r2 {h : Hp} {a : Nat} {s : St} (H : isR C9 h a s) : h (a + 1) = some (.inl (0, 60, .inl (s.2.1 2))) := H.2 _ C9_in2
theorem C9_in3 : (3, 2, 0, 62) ∈ C9.2.2.2 := by decide +kernel
theorem C9_r3 {h : Hp} {a : Nat} {s : St} (H : isR C9 h a s) : h (a + 2) = some (.inl (0, 62, .inl (s.2.1 3))) := H.2 _ C9_in3
theorem C9_in4 : (4, 3, 0, 62) ∈ C9.2.2.2 := by decide +kernel
theorem C9_r4 {h : Hp} {a : Nat} {s : St} (H : isR C9 h a s) : h (a + 3) = some (.inl (0, 62, .inl (s.2.1 4))) := H.2 _ C9_in4
theorem C9_in5 : (5, 4, 0, 62) ∈ C9.2.2.2 := by decide +kernel
theorem C9_r5 {h : Hp} {a : Nat} {s : St} (H : isR C9 h a s) : h (a + 4) = some (.inl (0, 62, .inl (s.2.1 5))) := H.2 _ C9_in5
/-- BurntEnds$Undoing: 0 size, 1 men, 2 tops, 3 lows, 4 lits -/
def oX10 (a : Nat) (f : Nat → Int32) (r : Nat → Nat) : List Value := [.int (f 0), .ref (a + 1), .ref (a + 2), .ref (a + 3), .ref (a + 4)]
def C10 : Cl := (10, 5, oX10, [(1, 1, 0, 20), (2, 2, 0, 20), (3, 3, 0, 20), (4, 4, 0, 20)])
theorem C10_ok : layOk C10 = true := by decide +kernel
theorem C10_in1 : (1, 1, 0, 20) ∈ C10.2.2.2 := by decide +kernel
theorem C10_r1 {h : Hp} {a : Nat} {s : St} (H : isR C10 h a s) : h (a + 1) = some (.inl (0, 20, .inl (s.2.1 1))) := H.2 _ C10_in1
theorem C10_in2 : (2, 2, 0, 20) ∈ C10.2.2.2 := by decide +kernel
theorem C10_r2 {h : Hp} {a : Nat} {s : St} (H : isR C10 h a s) : h (a + 2) = some (.inl (0, 20, .inl (s.2.1 2))) := H.2 _ C10_in2
theorem C10_in3 : (3, 3, 0, 20) ∈ C10.2.2.2 := by decide +kernel
theorem C10_r3 {h : Hp} {a : Nat} {s : St} (H : isR C10 h a s) : h (a + 3) = some (.inl (0, 20, .inl (s.2.1 3))) := H.2 _ C10_in3
theorem C10_in4 : (4, 4, 0, 20) ∈ C10.2.2.2 := by decide +kernel
theorem C10_r4 {h : Hp} {a : Nat} {s : St} (H : isR C10 h a s) : h (a + 4) = some (.inl (0, 20, .inl (s.2.1 4))) := H.2 _ C10_in4
/-- BurntEnds: 0 tape, 1 taped, 2 reading, 3 told, 4 spare, 5 now, 6 image, 7 hasImage, 8 then, 9 course, 10 undoing, 11 facts, 12 pair, 13 turns, 14 lendersFor, 15 leftAt -/
def oX11 (a : Nat) (f : Nat → Int32) (r : Nat → Nat) : List Value := [.ref (a + 1), .int (f 1), .ref (a + 2), .ref (r 3), .ref (r 4), .ref (a + 63), .ref (a + 70), .int (f 7), .ref (a + 77), .ref (a + 84), .ref (a + 104), .ref (a + 109), .ref (a + 115), .ref (a + 117), .ref (a + 122), .ref (a + 123)]
def C11 : Cl := (11, 124, oX11, [(0, 1, 0, 700), (14, 122, 0, 6), (15, 123, 0, 60)])
theorem C11_ok : layOk C11 = true := by decide +kernel
theorem C11_kept {h h' : Hp} {a : Nat} {s : St} (H : isR C11 h a s) (e0 : h' a = h a) (e1 : h' (a + 1) = h (a + 1)) (e122 : h' (a + 122) = h (a + 122)) (e123 : h' (a + 123) = h (a + 123)) : isR C11 h' a s := by
  refine ⟨e0.trans H.1, fun q hq => ?_⟩
  have hq2 := H.2 q hq
  simp only [C11, List.mem_cons, List.not_mem_nil, or_false] at hq
  rcases hq with rfl | rfl | rfl
  · exact e1.trans hq2
  · exact e122.trans hq2
  · exact e123.trans hq2
theorem C11_in0 : (0, 1, 0, 700) ∈ C11.2.2.2 := by decide +kernel
theorem C11_r0 {h : Hp} {a : Nat} {s : St} (H : isR C11 h a s) : h (a + 1) = some (.inl (0, 700, .inl (s.2.1 0))) := H.2 _ C11_in0
theorem C11_in14 : (14, 122, 0, 6) ∈ C11.2.2.2 := by decide +kernel
theorem C11_r14 {h : Hp} {a : Nat} {s : St} (H : isR C11 h a s) : h (a + 122) = some (.inl (0, 6, .inl (s.2.1 14))) := H.2 _ C11_in14
theorem C11_in15 : (15, 123, 0, 60) ∈ C11.2.2.2 := by decide +kernel
theorem C11_r15 {h : Hp} {a : Nat} {s : St} (H : isR C11 h a s) : h (a + 123) = some (.inl (0, 60, .inl (s.2.1 15))) := H.2 _ C11_in15
/-- BurntEndsModel: 0 thrown, 1 tape, 2 taped, 3 number, 4 manName, 5 inchesAs, 6 juneOf, 7 juneAt, 8 lightWho, 9 lightEnd, 10 lightHour, 11 blowWho, 12 blowEnd, 13 blowHour, 14 lendFrom, 15 lendTo, 16 sumFrom, 17 sumTo, 18 knotSort, 19 knotValue, 20 told, 21 lines, 22 size, 23 at, 24 place, 25 sort, 26 value, 27 fault, 28 faultPlace, 29 lastFault, 30 lastPlace, 31 open, 32 counted, 33 names, 34 worked, 35 workedMany, 36 hour, 37 drawn, 38 glowed, 39 idle, 40 topOf, 41 lowOf, 42 litOf, 43 seenBy, 44 hasImage, 45 undoMany, 46 tryWhat, 47 tryMan, 48 lengthOne, 49 lengthTried, 50 endsBy, 51 matchNow, 52 matchBest, 53 matchMost, 54 moreBy, 55 notes, 56 knownBy, 57 noteHours, 58 noteMan, 59 noteInch, 60 noteIs, 61 outs, 62 isOut, 63 firstBy, 64 endBy -/
def oX12 (a : Nat) (f : Nat → Int32) (r : Nat → Nat) : List Value := [.int (f 0), .ref (a + 1), .int (f 2), .ref (a + 2), .ref (a + 3), .ref (a + 4), .ref (a + 5), .ref (a + 6), .ref (a + 7), .ref (a + 8), .ref (a + 9), .ref (a + 10), .ref (a + 11), .ref (a + 12), .ref (a + 13), .ref (a + 14), .ref (a + 15), .ref (a + 16), .ref (a + 17), .ref (a + 18), .int (f 20), .int (f 21), .int (f 22), .int (f 23), .int (f 24), .int (f 25), .int (f 26), .int (f 27), .int (f 28), .int (f 29), .int (f 30), .int (f 31), .int (f 32), .ref (a + 19), .ref (a + 20), .int (f 35), .ref (a + 21), .ref (a + 22), .ref (a + 23), .ref (a + 24), .ref (a + 25), .ref (a + 26), .ref (a + 27), .ref (a + 28), .int (f 44), .int (f 45), .int (f 46), .int (f 47), .int (f 48), .int (f 49), .ref (a + 29), .ref (a + 30), .ref (a + 31), .int (f 53), .ref (a + 32), .int (f 55), .int (f 56), .ref (a + 33), .ref (a + 34), .ref (a + 35), .ref (a + 36), .ref (a + 37), .ref (a + 38), .ref (a + 39), .ref (a + 40)]
def C12 : Cl := (12, 41, oX12, [(1, 1, 0, 700), (3, 2, 0, 16), (4, 3, 0, 12), (5, 4, 0, 12), (6, 5, 0, 24), (7, 6, 0, 24), (8, 7, 0, 24), (9, 8, 0, 24), (10, 9, 0, 24), (11, 10, 0, 16), (12, 11, 0, 16), (13, 12, 0, 16), (14, 13, 0, 16), (15, 14, 0, 16), (16, 15, 0, 6), (17, 16, 0, 6), (18, 17, 0, 128), (19, 18, 0, 128), (33, 19, 1, 7), (34, 20, 1, 64), (36, 21, 0, 23), (37, 22, 0, 23), (38, 23, 0, 23), (39, 24, 0, 23), (40, 25, 0, 138), (41, 26, 0, 138), (42, 27, 0, 138), (43, 28, 0, 138), (50, 29, 0, 61), (51, 30, 0, 6), (52, 31, 0, 6), (54, 32, 0, 3721), (57, 33, 0, 24), (58, 34, 0, 24), (59, 35, 0, 24), (60, 36, 2, 24), (61, 37, 0, 24), (62, 38, 2, 24), (63, 39, 0, 30), (64, 40, 0, 30)])
theorem C12_ok : layOk C12 = true := by decide +kernel
theorem C12_in1 : (1, 1, 0, 700) ∈ C12.2.2.2 := by decide +kernel
theorem C12_r1 {h : Hp} {a : Nat} {s : St} (H : isR C12 h a s) : h (a + 1) = some (.inl (0, 700, .inl (s.2.1 1))) := H.2 _ C12_in1
theorem C12_in3 : (3, 2, 0, 16) ∈ C12.2.2.2 := by decide +kernel
theorem C12_r3 {h : Hp} {a : Nat} {s : St} (H : isR C12 h a s) : h (a + 2) = some (.inl (0, 16, .inl (s.2.1 3))) := H.2 _ C12_in3
theorem C12_in4 : (4, 3, 0, 12) ∈ C12.2.2.2 := by decide +kernel
theorem C12_r4 {h : Hp} {a : Nat} {s : St} (H : isR C12 h a s) : h (a + 3) = some (.inl (0, 12, .inl (s.2.1 4))) := H.2 _ C12_in4
theorem C12_in5 : (5, 4, 0, 12) ∈ C12.2.2.2 := by decide +kernel
theorem C12_r5 {h : Hp} {a : Nat} {s : St} (H : isR C12 h a s) : h (a + 4) = some (.inl (0, 12, .inl (s.2.1 5))) := H.2 _ C12_in5
theorem C12_in6 : (6, 5, 0, 24) ∈ C12.2.2.2 := by decide +kernel
theorem C12_r6 {h : Hp} {a : Nat} {s : St} (H : isR C12 h a s) : h (a + 5) = some (.inl (0, 24, .inl (s.2.1 6))) := H.2 _ C12_in6
theorem C12_in7 : (7, 6, 0, 24) ∈ C12.2.2.2 := by decide +kernel
theorem C12_r7 {h : Hp} {a : Nat} {s : St} (H : isR C12 h a s) : h (a + 6) = some (.inl (0, 24, .inl (s.2.1 7))) := H.2 _ C12_in7
theorem C12_in8 : (8, 7, 0, 24) ∈ C12.2.2.2 := by decide +kernel
theorem C12_r8 {h : Hp} {a : Nat} {s : St} (H : isR C12 h a s) : h (a + 7) = some (.inl (0, 24, .inl (s.2.1 8))) := H.2 _ C12_in8
theorem C12_in9 : (9, 8, 0, 24) ∈ C12.2.2.2 := by decide +kernel
theorem C12_r9 {h : Hp} {a : Nat} {s : St} (H : isR C12 h a s) : h (a + 8) = some (.inl (0, 24, .inl (s.2.1 9))) := H.2 _ C12_in9
theorem C12_in10 : (10, 9, 0, 24) ∈ C12.2.2.2 := by decide +kernel
theorem C12_r10 {h : Hp} {a : Nat} {s : St} (H : isR C12 h a s) : h (a + 9) = some (.inl (0, 24, .inl (s.2.1 10))) := H.2 _ C12_in10
theorem C12_in11 : (11, 10, 0, 16) ∈ C12.2.2.2 := by decide +kernel
theorem C12_r11 {h : Hp} {a : Nat} {s : St} (H : isR C12 h a s) : h (a + 10) = some (.inl (0, 16, .inl (s.2.1 11))) := H.2 _ C12_in11
theorem C12_in12 : (12, 11, 0, 16) ∈ C12.2.2.2 := by decide +kernel
theorem C12_r12 {h : Hp} {a : Nat} {s : St} (H : isR C12 h a s) : h (a + 11) = some (.inl (0, 16, .inl (s.2.1 12))) := H.2 _ C12_in12
theorem C12_in13 : (13, 12, 0, 16) ∈ C12.2.2.2 := by decide +kernel
theorem C12_r13 {h : Hp} {a : Nat} {s : St} (H : isR C12 h a s) : h (a + 12) = some (.inl (0, 16, .inl (s.2.1 13))) := H.2 _ C12_in13
theorem C12_in14 : (14, 13, 0, 16) ∈ C12.2.2.2 := by decide +kernel
theorem C12_r14 {h : Hp} {a : Nat} {s : St} (H : isR C12 h a s) : h (a + 13) = some (.inl (0, 16, .inl (s.2.1 14))) := H.2 _ C12_in14
theorem C12_in15 : (15, 14, 0, 16) ∈ C12.2.2.2 := by decide +kernel
theorem C12_r15 {h : Hp} {a : Nat} {s : St} (H : isR C12 h a s) : h (a + 14) = some (.inl (0, 16, .inl (s.2.1 15))) := H.2 _ C12_in15
theorem C12_in16 : (16, 15, 0, 6) ∈ C12.2.2.2 := by decide +kernel
theorem C12_r16 {h : Hp} {a : Nat} {s : St} (H : isR C12 h a s) : h (a + 15) = some (.inl (0, 6, .inl (s.2.1 16))) := H.2 _ C12_in16
theorem C12_in17 : (17, 16, 0, 6) ∈ C12.2.2.2 := by decide +kernel
theorem C12_r17 {h : Hp} {a : Nat} {s : St} (H : isR C12 h a s) : h (a + 16) = some (.inl (0, 6, .inl (s.2.1 17))) := H.2 _ C12_in17
theorem C12_in18 : (18, 17, 0, 128) ∈ C12.2.2.2 := by decide +kernel
theorem C12_r18 {h : Hp} {a : Nat} {s : St} (H : isR C12 h a s) : h (a + 17) = some (.inl (0, 128, .inl (s.2.1 18))) := H.2 _ C12_in18
theorem C12_in19 : (19, 18, 0, 128) ∈ C12.2.2.2 := by decide +kernel
theorem C12_r19 {h : Hp} {a : Nat} {s : St} (H : isR C12 h a s) : h (a + 18) = some (.inl (0, 128, .inl (s.2.1 19))) := H.2 _ C12_in19
theorem C12_in33 : (33, 19, 1, 7) ∈ C12.2.2.2 := by decide +kernel
theorem C12_r33 {h : Hp} {a : Nat} {s : St} (H : isR C12 h a s) : h (a + 19) = some (.inl (1, 7, .inr (.inl (s.2.2.1 33)))) := H.2 _ C12_in33
theorem C12_in34 : (34, 20, 1, 64) ∈ C12.2.2.2 := by decide +kernel
theorem C12_r34 {h : Hp} {a : Nat} {s : St} (H : isR C12 h a s) : h (a + 20) = some (.inl (1, 64, .inr (.inl (s.2.2.1 34)))) := H.2 _ C12_in34
theorem C12_in36 : (36, 21, 0, 23) ∈ C12.2.2.2 := by decide +kernel
theorem C12_r36 {h : Hp} {a : Nat} {s : St} (H : isR C12 h a s) : h (a + 21) = some (.inl (0, 23, .inl (s.2.1 36))) := H.2 _ C12_in36
theorem C12_in37 : (37, 22, 0, 23) ∈ C12.2.2.2 := by decide +kernel
theorem C12_r37 {h : Hp} {a : Nat} {s : St} (H : isR C12 h a s) : h (a + 22) = some (.inl (0, 23, .inl (s.2.1 37))) := H.2 _ C12_in37
theorem C12_in38 : (38, 23, 0, 23) ∈ C12.2.2.2 := by decide +kernel
theorem C12_r38 {h : Hp} {a : Nat} {s : St} (H : isR C12 h a s) : h (a + 23) = some (.inl (0, 23, .inl (s.2.1 38))) := H.2 _ C12_in38
theorem C12_in39 : (39, 24, 0, 23) ∈ C12.2.2.2 := by decide +kernel
theorem C12_r39 {h : Hp} {a : Nat} {s : St} (H : isR C12 h a s) : h (a + 24) = some (.inl (0, 23, .inl (s.2.1 39))) := H.2 _ C12_in39
theorem C12_in40 : (40, 25, 0, 138) ∈ C12.2.2.2 := by decide +kernel
theorem C12_r40 {h : Hp} {a : Nat} {s : St} (H : isR C12 h a s) : h (a + 25) = some (.inl (0, 138, .inl (s.2.1 40))) := H.2 _ C12_in40
theorem C12_in41 : (41, 26, 0, 138) ∈ C12.2.2.2 := by decide +kernel
theorem C12_r41 {h : Hp} {a : Nat} {s : St} (H : isR C12 h a s) : h (a + 26) = some (.inl (0, 138, .inl (s.2.1 41))) := H.2 _ C12_in41
theorem C12_in42 : (42, 27, 0, 138) ∈ C12.2.2.2 := by decide +kernel
theorem C12_r42 {h : Hp} {a : Nat} {s : St} (H : isR C12 h a s) : h (a + 27) = some (.inl (0, 138, .inl (s.2.1 42))) := H.2 _ C12_in42
theorem C12_in43 : (43, 28, 0, 138) ∈ C12.2.2.2 := by decide +kernel
theorem C12_r43 {h : Hp} {a : Nat} {s : St} (H : isR C12 h a s) : h (a + 28) = some (.inl (0, 138, .inl (s.2.1 43))) := H.2 _ C12_in43
theorem C12_in50 : (50, 29, 0, 61) ∈ C12.2.2.2 := by decide +kernel
theorem C12_r50 {h : Hp} {a : Nat} {s : St} (H : isR C12 h a s) : h (a + 29) = some (.inl (0, 61, .inl (s.2.1 50))) := H.2 _ C12_in50
theorem C12_in51 : (51, 30, 0, 6) ∈ C12.2.2.2 := by decide +kernel
theorem C12_r51 {h : Hp} {a : Nat} {s : St} (H : isR C12 h a s) : h (a + 30) = some (.inl (0, 6, .inl (s.2.1 51))) := H.2 _ C12_in51
theorem C12_in52 : (52, 31, 0, 6) ∈ C12.2.2.2 := by decide +kernel
theorem C12_r52 {h : Hp} {a : Nat} {s : St} (H : isR C12 h a s) : h (a + 31) = some (.inl (0, 6, .inl (s.2.1 52))) := H.2 _ C12_in52
theorem C12_in54 : (54, 32, 0, 3721) ∈ C12.2.2.2 := by decide +kernel
theorem C12_r54 {h : Hp} {a : Nat} {s : St} (H : isR C12 h a s) : h (a + 32) = some (.inl (0, 3721, .inl (s.2.1 54))) := H.2 _ C12_in54
theorem C12_in57 : (57, 33, 0, 24) ∈ C12.2.2.2 := by decide +kernel
theorem C12_r57 {h : Hp} {a : Nat} {s : St} (H : isR C12 h a s) : h (a + 33) = some (.inl (0, 24, .inl (s.2.1 57))) := H.2 _ C12_in57
theorem C12_in58 : (58, 34, 0, 24) ∈ C12.2.2.2 := by decide +kernel
theorem C12_r58 {h : Hp} {a : Nat} {s : St} (H : isR C12 h a s) : h (a + 34) = some (.inl (0, 24, .inl (s.2.1 58))) := H.2 _ C12_in58
theorem C12_in59 : (59, 35, 0, 24) ∈ C12.2.2.2 := by decide +kernel
theorem C12_r59 {h : Hp} {a : Nat} {s : St} (H : isR C12 h a s) : h (a + 35) = some (.inl (0, 24, .inl (s.2.1 59))) := H.2 _ C12_in59
theorem C12_in60 : (60, 36, 2, 24) ∈ C12.2.2.2 := by decide +kernel
theorem C12_r60 {h : Hp} {a : Nat} {s : St} (H : isR C12 h a s) : h (a + 36) = some (.inl (2, 24, .inl (s.2.1 60))) := H.2 _ C12_in60
theorem C12_in61 : (61, 37, 0, 24) ∈ C12.2.2.2 := by decide +kernel
theorem C12_r61 {h : Hp} {a : Nat} {s : St} (H : isR C12 h a s) : h (a + 37) = some (.inl (0, 24, .inl (s.2.1 61))) := H.2 _ C12_in61
theorem C12_in62 : (62, 38, 2, 24) ∈ C12.2.2.2 := by decide +kernel
theorem C12_r62 {h : Hp} {a : Nat} {s : St} (H : isR C12 h a s) : h (a + 38) = some (.inl (2, 24, .inl (s.2.1 62))) := H.2 _ C12_in62
theorem C12_in63 : (63, 39, 0, 30) ∈ C12.2.2.2 := by decide +kernel
theorem C12_r63 {h : Hp} {a : Nat} {s : St} (H : isR C12 h a s) : h (a + 39) = some (.inl (0, 30, .inl (s.2.1 63))) := H.2 _ C12_in63
theorem C12_in64 : (64, 40, 0, 30) ∈ C12.2.2.2 := by decide +kernel
theorem C12_r64 {h : Hp} {a : Nat} {s : St} (H : isR C12 h a s) : h (a + 40) = some (.inl (0, 30, .inl (s.2.1 64))) := H.2 _ C12_in64
