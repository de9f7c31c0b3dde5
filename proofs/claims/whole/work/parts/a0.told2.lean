/-! What is told grows: the class's Told beside the model's upper halves -/
/-- where the upper half of a row begins -/
def hl (k : Nat) : Nat := if k = 3 then 8 else if k ≤ 5 then 6 else if k ≤ 10 then 12 else if k ≤ 15 then 8 else if k ≤ 17 then 3 else 64
def upF (f : Nat → Nat → Int32) : Nat → Nat → Int32 := fun k i => f k (hl k + i)
theorem upF_uA {f : Nat → Nat → Int32} {k i : Nat} {v : Int32} : upF (uA f k (hl k + i) v) = uA (upF f) k i v := by
  funext j x
  show uA f k (hl k + i) v j (hl j + x) = uA (upF f) k i v j x
  unfold uA
  by_cases z : j = k
  · rw [if_pos z, if_pos z, z]
    show (if hl k + x = hl k + i then v else f k (hl k + x)) = if x = i then v else f k (hl k + x)
    by_cases y : x = i
    · rw [if_pos y, if_pos (by omega)]
    · rw [if_neg y, if_neg (by omega)]
  · rw [if_neg z, if_neg z]; rfl
theorem okN.up {x : Int32} {b c : Nat} (h : okN x b) (hb : b ≤ c) : okN x c := ⟨h.1, Nat.lt_of_lt_of_le h.2 hb⟩
theorem nat_nI {n : Nat} (h : n < 2 ^ 31) : nat (nI n) = n := nI_clamp h
section Grow
variable {T : Tx} {g : Nat → Nat → Int32}
theorem relT_man {P : Nat} {x l : Int32} (h : relT T g) (hP : g 3 0 = nI P) (h6 : P < 6) (hl : okN l 61) : relT (tAdd T.1 P x l, T.2) (uA (uA (uA g 4 P x) 5 P l) 3 0 (nI (P + 1))) := by
  obtain ⟨⟨n1, n2, n3⟩, ⟨j1, j2, j3, j4, j5⟩, hD1, hD2, ⟨l1, l2, l3, l4⟩, hS, hW⟩ := h
  have e0 : nat (g 3 0) = P := by rw [hP]; exact nat_nI (by omega)
  have e1 : nat (nI (P + 1)) = P + 1 := nat_nI (by omega)
  rw [e0] at n3 j3 l3
  have a0 : (uA (uA (uA g 4 P x) 5 P l) 3 0 (nI (P + 1))) 3 0 = nI (P + 1) := rfl
  refine ⟨⟨okN.of a0 (by omega) (by decide), rfl, fun p hp => ?_⟩, ⟨j1, j2, fun k hk => ?_, j4, j5⟩, hD1, hD2, ⟨l1, l2, fun k hk => ?_, l4⟩, hS, hW⟩
  · rw [a0, e1] at hp
    have b1 : (tAdd T.1 P x l).2.1 1 p = if p = P then x else T.1.2.1 1 p := rfl
    have b2 : (tAdd T.1 P x l).2.1 2 p = if p = P then l else T.1.2.1 2 p := rfl
    have b3 : (uA (uA (uA g 4 P x) 5 P l) 3 0 (nI (P + 1))) 4 p = if p = P then x else g 4 p := rfl
    have b4 : (uA (uA (uA g 4 P x) 5 P l) 3 0 (nI (P + 1))) 5 p = if p = P then l else g 5 p := rfl
    rw [b3, b4]
    show (tAdd T.1 P x l).2.1 1 p = _ ∧ (tAdd T.1 P x l).2.1 2 p = _ ∧ _
    rw [b1, b2]
    by_cases z : p = P
    · simp only [if_pos z]; exact ⟨trivial, trivial, hl⟩
    · simp only [if_neg z]; exact n3 p (by omega)
  · rw [a0, e1]; exact ⟨(j3 k hk).1.up (by omega), (j3 k hk).2⟩
  · rw [a0, e1]; exact ⟨(l3 k hk).1.up (by omega), (l3 k hk).2.up (by omega)⟩
theorem juneF_ext {jo ja jo' ja' : Nat → Int32} {p : Int32} : ∀ n, (∀ k, k < n → jo' k = jo k ∧ ja' k = ja k) → juneF jo' ja' p n = juneF jo ja p n := by
  intro n
  induction n with
  | zero => intro _; rfl
  | succ n ih =>
    intro h
    rw [juneF, juneF, ih (fun k hk => h k (by omega)), (h n (by omega)).1, (h n (by omega)).2]
theorem lendF_ext {fr to fr' to' : Nat → Int32} {p : Int32} : ∀ n, (∀ k, k < n → fr' k = fr k ∧ to' k = to k) → lendF fr' to' p n = lendF fr to p n := by
  intro n
  induction n with
  | zero => intro _; rfl
  | succ n ih =>
    intro h
    rw [lendF, lendF, ih (fun k hk => h k (by omega)), (h n (by omega)).1, (h n (by omega)).2]
theorem isJF_no {jo ja : Nat → Int32} {p x : Int32} : ∀ k i, isJF jo ja p x k i = false → ∀ j, i ≤ j → j < i + k → ¬ (jo j = p ∧ ja j = x) := by
  intro k
  induction k with
  | zero => intro i _ j h1 h2; omega
  | succ k ih =>
    intro i h j h1 h2 z
    unfold isJF at h
    by_cases y : j = i
    · subst y
      rw [if_pos z] at h
      cases h
    · split at h
      · cases h
      · exact ih (i + 1) h j (by omega) (by omega) z
theorem isJF_yes {jo ja : Nat → Int32} {p x : Int32} : ∀ k i, isJF jo ja p x k i = true → ∃ j, i ≤ j ∧ j < i + k ∧ jo j = p ∧ ja j = x := by
  intro k
  induction k with
  | zero => intro i h; cases h
  | succ k ih =>
    intro i h
    unfold isJF at h
    split at h
    · rename_i z; exact ⟨i, by omega, by omega, z.1, z.2⟩
    · obtain ⟨j, a1, a2, a3⟩ := ih (i + 1) h
      exact ⟨j, by omega, by omega, a3⟩
theorem relT_june {n i : Nat} {x : Int32} (h : relT T g) (hn : g 3 1 = nI n) (h12 : n < 12) (hi : i < nat (g 3 0)) (hx : okN x 60) (hno : tJune T.1 i x = false) : relT (tJuneSet T.1 i x, T.2) (uA (uA (uA g 6 n (nI i)) 7 n x) 3 1 (nI (n + 1))) := by
  have hi6 : i < 6 := by have := h.1.1.2; omega
  have hno2 : ∀ k, k < n → ¬ (g 6 k = nI i ∧ g 7 k = x) := by
    have hx2 := hx.2
    have := june_iff h hi6 (i := nat x) hx.2
    rw [← hx.1, hno] at this
    intro k hk
    exact isJF_no _ 0 this.symm k (by omega) (by rw [hn, nat_nI (by omega)]; omega)
  obtain ⟨hN, ⟨j1, j2, j3, j4, j5⟩, hD1, hD2, hL, hS, hW⟩ := h
  have e0 : nat (g 3 1) = n := by rw [hn]; exact nat_nI (by omega)
  have e1 : nat (nI (n + 1)) = n + 1 := nat_nI (by omega)
  rw [e0] at j3 j4 j5
  have a0 : (uA (uA (uA g 6 n (nI i)) 7 n x) 3 1 (nI (n + 1))) 3 1 = nI (n + 1) := rfl
  have b6 : ∀ k, (uA (uA (uA g 6 n (nI i)) 7 n x) 3 1 (nI (n + 1))) 6 k = if k = n then nI i else g 6 k := fun _ => rfl
  have b7 : ∀ k, (uA (uA (uA g 6 n (nI i)) 7 n x) 3 1 (nI (n + 1))) 7 k = if k = n then x else g 7 k := fun _ => rfl
  refine ⟨hN, ⟨okN.of a0 (by omega) (by decide), ?_, fun k hk => ?_, ?_, fun p hp => ?_⟩, hD1, hD2, hL, hS, hW⟩
  · show T.1.1 5 + 1 = nI (n + 1)
    rw [j2, hn]; exact nI_1 n
  · rw [a0, e1] at hk
    rw [b6, b7]
    by_cases z : k = n
    · rw [if_pos z, if_pos z]
      exact ⟨show okN (nI i) (nat (g 3 0)) from okN.of rfl hi (by have := hN.1.2; omega), hx⟩
    · rw [if_neg z, if_neg z]; exact j3 k (by omega)
  · rw [a0, e1]
    intro j k hjk hk
    rw [b6, b6, b7, b7, if_neg (show ¬ j = n by omega), if_neg (show ¬ j = n by omega)]
    by_cases z : k = n
    · rw [if_pos z, if_pos z]; exact hno2 j (by omega)
    · rw [if_neg z, if_neg z]; exact j4 j k hjk (by omega)
  · rw [a0, e1, juneF, b6, b7, if_pos rfl, if_pos rfl, juneF_ext (jo := g 6) (ja := g 7) n (fun k hk => by rw [b6, b7, if_neg (by omega), if_neg (by omega)]; exact ⟨rfl, rfl⟩), ← j5 p hp]
    show (if p = i then T.1.2.2.1 3 i ||| _ else T.1.2.2.1 3 p) = _
    by_cases z : p = i
    · rw [if_pos z, if_pos (by rw [z]), z]
    · rw [if_neg z, if_neg (fun y => z (nI_eq700 (by omega) (by omega) y.symm))]
theorem relD_add {D : St} {n : Int32} {w e hh : Nat → Int32} {b z : Nat} {x y u : Int32} (h : relD D n w e hh b) (hn : n = nI z) (hb : z + 1 < b) (hb2 : b ≤ 13) : relD (dAdd D z x y u) (nI (z + 1)) (upd w z x) (upd e z y) (upd hh z u) b := by
  obtain ⟨h1, h2, h3⟩ := h
  have e0 : nat n = z := by rw [hn]; exact nat_nI (by omega)
  rw [e0] at h3
  refine ⟨okN.of rfl hb (by omega), rfl, fun k hk => ?_⟩
  rw [nat_nI (by omega)] at hk
  show (if k = z then x else D.2.1 2 k) = (if k = z then x else w k) ∧ (if k = z then y else D.2.1 3 k) = (if k = z then y else e k) ∧ (if k = z then u else D.2.1 4 k) = (if k = z then u else hh k)
  by_cases q : k = z
  · simp only [if_pos q]; exact ⟨trivial, trivial, trivial⟩
  · simp only [if_neg q]; exact h3 k (by omega)
theorem relT_light {z : Nat} {x y u : Int32} (h : relT T g) (hz : g 3 2 = nI z) (h12 : z < 12) : relT (T.1, dAdd T.2.1 z x y u, T.2.2) (uA (uA (uA (uA g 8 z x) 9 z y) 10 z u) 3 2 (nI (z + 1))) := by
  obtain ⟨hN, hJ, hD1, hD2, hL, hS, hW⟩ := h
  exact ⟨hN, hJ, relD_add hD1 hz (by omega) (by omega), hD2, hL, hS, hW⟩
theorem relT_blow {z : Nat} {x y u : Int32} (h : relT T g) (hz : g 3 3 = nI z) (h12 : z < 8) : relT (T.1, T.2.1, dAdd T.2.2.1 z x y u, T.2.2.2) (uA (uA (uA (uA g 11 z x) 12 z y) 13 z u) 3 3 (nI (z + 1))) := by
  obtain ⟨hN, hJ, hD1, hD2, hL, hS, hW⟩ := h
  exact ⟨hN, hJ, hD1, relD_add hD2 hz (by omega) (by omega), hL, hS, hW⟩
theorem relT_lend {n i j : Nat} (h : relT T g) (hn : g 3 4 = nI n) (h8 : n < 8) (hi : i < nat (g 3 0)) (hj : j < nat (g 3 0)) : relT (lendSet T.1 i j, T.2) (uA (uA (uA g 14 n (nI i)) 15 n (nI j)) 3 4 (nI (n + 1))) := by
  obtain ⟨hN, hJ, hD1, hD2, ⟨l1, l2, l3, l4⟩, hS, hW⟩ := h
  have h6 := hN.1.2
  have e0 : nat (g 3 4) = n := by rw [hn]; exact nat_nI (by omega)
  have e1 : nat (nI (n + 1)) = n + 1 := nat_nI (by omega)
  rw [e0] at l3 l4
  have a0 : (uA (uA (uA g 14 n (nI i)) 15 n (nI j)) 3 4 (nI (n + 1))) 3 4 = nI (n + 1) := rfl
  have b6 : ∀ k, (uA (uA (uA g 14 n (nI i)) 15 n (nI j)) 3 4 (nI (n + 1))) 14 k = if k = n then nI i else g 14 k := fun _ => rfl
  have b7 : ∀ k, (uA (uA (uA g 14 n (nI i)) 15 n (nI j)) 3 4 (nI (n + 1))) 15 k = if k = n then nI j else g 15 k := fun _ => rfl
  refine ⟨hN, hJ, hD1, hD2, ⟨okN.of a0 (by omega) (by decide), ?_, fun k hk => ?_, fun p hp => ?_⟩, hS, hW⟩
  · show T.1.1 6 + 1 = nI (n + 1)
    rw [l2, hn]; exact nI_1 n
  · rw [a0, e1] at hk
    rw [b6, b7]
    by_cases z : k = n
    · rw [if_pos z, if_pos z]
      exact ⟨show okN (nI i) (nat (g 3 0)) from okN.of rfl hi (by omega), show okN (nI j) (nat (g 3 0)) from okN.of rfl hj (by omega)⟩
    · rw [if_neg z, if_neg z]; exact l3 k (by omega)
  · rw [a0, e1, lendF, b6, b7, if_pos rfl, if_pos rfl, lendF_ext (fr := g 14) (to := g 15) n (fun k hk => by rw [b6, b7, if_neg (by omega), if_neg (by omega)]; exact ⟨rfl, rfl⟩), ← l4 p hp]
    show (if p = j then T.1.2.1 4 j ||| _ else T.1.2.1 4 p) = _
    by_cases z : p = j
    · rw [if_pos z, if_pos (by rw [z]), z]
    · rw [if_neg z, if_neg (fun y => z (nI_eq700 (by omega) (by omega) y.symm)), Int32.or_zero]
theorem relT_draft {x : Int32} (h : relT T g) : relT ((upd (upd T.1.1 12 1) 10 x, T.1.2), T.2) (uA g 3 5 x) := by
  obtain ⟨hN, hJ, hD1, hD2, hL, hS, hW⟩ := h
  exact ⟨hN, hJ, hD1, hD2, hL, ⟨rfl, hS.2⟩, hW⟩
theorem relT_seed {x : Int32} (h : relT T g) : relT ((upd (upd T.1.1 13 1) 11 x, T.1.2), T.2) (uA g 3 6 x) := by
  obtain ⟨hN, hJ, hD1, hD2, hL, hS, hW⟩ := h
  exact ⟨hN, hJ, hD1, hD2, hL, ⟨hS.1, rfl⟩, hW⟩
/-- what stands behind the counts doesn't matter -/
theorem relT.ext {f : Nat → Nat → Int32} (h : relT T f) (h3 : ∀ i, i < 8 → g 3 i = f 3 i) (h4 : ∀ i, i < nat (f 3 0) → g 4 i = f 4 i ∧ g 5 i = f 5 i) (h6 : ∀ i, i < nat (f 3 1) → g 6 i = f 6 i ∧ g 7 i = f 7 i) (h8 : ∀ i, i < nat (f 3 2) → g 8 i = f 8 i ∧ g 9 i = f 9 i ∧ g 10 i = f 10 i) (h11 : ∀ i, i < nat (f 3 3) → g 11 i = f 11 i ∧ g 12 i = f 12 i ∧ g 13 i = f 13 i) (h14 : ∀ i, i < nat (f 3 4) → g 14 i = f 14 i ∧ g 15 i = f 15 i) (h16 : ∀ i, i < 3 → g 16 i = f 16 i ∧ g 17 i = f 17 i) (h18 : ∀ i, i < nat (f 3 7) → g 18 i = f 18 i ∧ g 19 i = f 19 i) : relT T g := by
  obtain ⟨⟨n1, n2, n3⟩, ⟨j1, j2, j3, j4, j5⟩, ⟨d1, d2, d3⟩, ⟨c1, c2, c3⟩, ⟨l1, l2, l3, l4⟩, ⟨s1, s2⟩, ⟨w1, w2, w3, w4⟩⟩ := h
  refine ⟨⟨?_, ?_, ?_⟩, ⟨?_, ?_, ?_, ?_, ?_⟩, ⟨?_, ?_, ?_⟩, ⟨?_, ?_, ?_⟩, ⟨?_, ?_, ?_, ?_⟩, ⟨?_, ?_⟩, ⟨?_, ?_, ?_, ?_⟩⟩
  · rw [h3 0 (by decide)]; exact n1
  · rw [h3 0 (by decide)]; exact n2
  · rw [h3 0 (by decide)]; intro p hp; rw [(h4 p hp).1, (h4 p hp).2]; exact n3 p hp
  · rw [h3 1 (by decide)]; exact j1
  · rw [h3 1 (by decide)]; exact j2
  · rw [h3 1 (by decide), h3 0 (by decide)]; intro k hk; rw [(h6 k hk).1, (h6 k hk).2]; exact j3 k hk
  · rw [h3 1 (by decide)]; intro j k hj hk; rw [(h6 k hk).1, (h6 k hk).2, (h6 j (by omega)).1, (h6 j (by omega)).2]; exact j4 j k hj hk
  · rw [h3 1 (by decide)]; intro p hp; rw [j5 p hp]; exact (juneF_ext _ h6).symm
  · rw [h3 2 (by decide)]; exact d1
  · rw [h3 2 (by decide)]; exact d2
  · rw [h3 2 (by decide)]; intro k hk; rw [(h8 k hk).1, (h8 k hk).2.1, (h8 k hk).2.2]; exact d3 k hk
  · rw [h3 3 (by decide)]; exact c1
  · rw [h3 3 (by decide)]; exact c2
  · rw [h3 3 (by decide)]; intro k hk; rw [(h11 k hk).1, (h11 k hk).2.1, (h11 k hk).2.2]; exact c3 k hk
  · rw [h3 4 (by decide)]; exact l1
  · rw [h3 4 (by decide)]; exact l2
  · rw [h3 4 (by decide), h3 0 (by decide)]; intro k hk; rw [(h14 k hk).1, (h14 k hk).2]; exact l3 k hk
  · rw [h3 4 (by decide)]; intro p hp; rw [l4 p hp]; exact (lendF_ext _ h14).symm
  · rw [h3 5 (by decide)]; exact s1
  · rw [h3 6 (by decide)]; exact s2
  · rw [h3 7 (by decide)]; exact w1
  · rw [h3 7 (by decide)]; exact w2
  · rw [h3 7 (by decide)]; intro k hk; rw [(h18 k hk).1, (h18 k hk).2]; exact w3 k hk
  · rw [h3 7 (by decide)]; intro r hr; rw [(h16 r hr).1, (h16 r hr).2]; exact w4 r hr
end Grow
/-! bits of what was told of LINES -/
theorem bt_or {x y : Int32} {i : Nat} : bt (x ||| y) i = (bt x i || bt y i) := by
  unfold bt
  rw [Int32.toBitVec_or, BitVec.getLsbD_or]
theorem bt_1 : ∀ m, m < 32 → ∀ i, i < 32 → bt ((1 : Int32) <<< (nI m &&& 31)) i = decide (i = m) := by decide +kernel
theorem bt_tst {x : Int32} {k : Nat} (hk : k < 32) : ((x >>> (nI k &&& 31)) &&& 1 = 0 ↔ bt x k = false) ∧ ((x >>> (nI k &&& 31)) &&& 1 = 1 ↔ bt x k = true) := by
  have h0 : bt ((x >>> (nI k &&& 31)) &&& 1) 0 = bt x k := by
    have : bt ((x >>> (nI k &&& 31)) &&& 1) 0 = (bt (x >>> (nI k &&& 31)) 0 && bt 1 0) := by
      unfold bt
      rw [Int32.toBitVec_and, BitVec.getLsbD_and]
    rw [this, b_sshr k hk x (by decide), if_pos (by omega), show bt 1 0 = true by decide, Bool.and_true, Nat.add_zero]
  rcases and1 (x >>> (nI k &&& 31)) with h | h
  · rw [h] at h0 ⊢
    rw [← h0]
    decide
  · rw [h] at h0 ⊢
    rw [← h0]
    decide
theorem bt_0 (i : Nat) : bt 0 i = false := by
  unfold bt
  show (0 : BitVec 32).getLsbD i = false
  simp
theorem lendF_bt {fr to : Nat → Int32} {p : Int32} {i : Nat} (hi : i < 6) : ∀ n, (∀ k, k < n → okN (fr k) 6) → (bt (lendF fr to p n) i = true ↔ ∃ k, k < n ∧ fr k = nI i ∧ to k = p) := by
  intro n
  induction n with
  | zero => intro _; rw [lendF, bt_0]; exact ⟨fun z => absurd z (by decide), fun ⟨k, hk, _⟩ => absurd hk (by omega)⟩
  | succ n ih =>
    intro h
    obtain ⟨h1, h2⟩ := h n (by omega)
    rw [lendF, bt_or, Bool.or_eq_true, ih (fun k hk => h k (by omega))]
    constructor
    · rintro (⟨k, k1, k2, k3⟩ | z)
      · exact ⟨k, by omega, k2, k3⟩
      · by_cases y : to n = p
        · rw [if_pos y, h1, bt_1 _ (by omega) i (by omega)] at z
          have : i = nat (fr n) := by simpa using z
          exact ⟨n, by omega, by rw [h1, ← this], y⟩
        · rw [if_neg y, bt_0] at z; cases z
    · rintro ⟨k, k1, k2, k3⟩
      by_cases y : k = n
      · subst y
        refine Or.inr ?_
        rw [if_pos k3, k2, bt_1 _ (by omega) i (by omega)]
        simp
      · exact Or.inl ⟨k, by omega, k2, k3⟩
def tdR (T : Tx) (x : Int32) : Prop := bt x 5 = decide (¬ T.1.1 12 = 0) ∧ bt x 6 = decide (¬ T.1.1 13 = 0) ∧ ∀ k, k < 3 → bt x (16 + k) = lTold T.2.2.2 k
