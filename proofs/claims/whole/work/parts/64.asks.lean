/-! The model: small questions; what the answers are (a..) -/
/-- what a question may change -/
def frX (s s' : St) : Prop := (∀ j, j ≠ 0 → j ≠ 35 → j ≠ 53 → s'.1 j = s.1 j) ∧ (∀ k, ¬ (36 ≤ k ∧ k ≤ 43) → ¬ (50 ≤ k ∧ k ≤ 54) → ¬ (62 ≤ k ∧ k ≤ 64) → s'.2.1 k = s.2.1 k) ∧ (∀ k i, 36 ≤ k → k ≤ 39 → i ≠ 1 → s'.2.1 k i = s.2.1 k i) ∧ ∀ k i, 40 ≤ k → k ≤ 43 → (i < 6 ∨ 12 ≤ i) → s'.2.1 k i = s.2.1 k i
theorem frX.rf {s : St} : frX s s := ⟨fun _ _ _ _ => rfl, fun _ _ _ _ => rfl, fun _ _ _ _ _ => rfl, fun _ _ _ _ _ => rfl⟩
theorem frX.tr {s1 s2 s3 : St} (h : frX s1 s2) (k : frX s2 s3) : frX s1 s3 :=
  ⟨fun j a b c => (k.1 j a b c).trans (h.1 j a b c), fun j a b c => (k.2.1 j a b c).trans (h.2.1 j a b c), fun a b x y z => (k.2.2.1 a b x y z).trans (h.2.2.1 a b x y z), fun a b x y z => (k.2.2.2 a b x y z).trans (h.2.2.2 a b x y z)⟩
theorem frX.z {s : St} {x : Int32} : frX s (mI s 0 x) := ⟨fun j h _ _ => upd_ne h, fun _ _ _ _ => rfl, fun _ _ _ _ _ => rfl, fun _ _ _ _ _ => rfl⟩
theorem frX.m53 {s : St} {x : Int32} : frX s (mI s 53 x) := ⟨fun j _ _ h => upd_ne h, fun _ _ _ _ => rfl, fun _ _ _ _ _ => rfl, fun _ _ _ _ _ => rfl⟩
theorem frX.a {s : St} {k i : Nat} {x : Int32} (hk : (50 ≤ k ∧ k ≤ 54) ∨ (62 ≤ k ∧ k ≤ 64)) : frX s (mA s k i x) :=
  ⟨fun _ _ _ _ => rfl, fun j h1 h2 h3 => mA_ne (by omega), fun j q h1 h2 h3 => by rw [mA_ne (by omega)], fun j q h1 h2 h3 => by rw [mA_ne (by omega)]⟩
theorem frX.r1 {s s' : St} (h : frR 1 s s') : frX s s' := ⟨fun j _ h1 _ => h.1 j h1, fun k h1 _ _ => h.2.1 k h1, fun k i h1 h2 h3 => h.2.2.1 k i h1 h2 h3, fun k i h1 h2 h3 => h.2.2.2 k i h1 h2 (by omega)⟩
theorem frX.sc {s s' : St} (h : scW s s') : frX s s' := frX.r1 (frR.sc h)
theorem frX.v {s s' : St} (h : scV s s') : frX s s' := frX.r1 (frR.v h)
theorem frX.T {T : Tx} {s s' : St} (h : frX s s') (hT : relT T s.2.1) : relT T s'.2.1 := hT.kept (fun k hk => h.2.1 k (by omega) (by omega) (by omega))
theorem frX.mIn {s s' : St} (h : frX s s') (p : Nat) : mIn s' p = mIn s p := by
  show (if nI p = s'.1 48 then s'.1 49 else s'.2.1 5 p) = if nI p = s.1 48 then s.1 49 else s.2.1 5 p
  rw [h.1 48 (by decide) (by decide) (by decide), h.1 49 (by decide) (by decide) (by decide), h.2.1 5 (by decide) (by decide) (by decide)]
/-- a room that isn't 1 stays -/
theorem frX.C {T : Tx} {s s' c : St} {r : Nat} (h : frX s s') (hr : ¬ r = 1) (hC : relC T s r c) : relC T s' r c := by
  obtain ⟨a0, a1, a2, a3, a4, a5, a6⟩ := hC
  refine ⟨a0, a1.trans (h.2.2.1 36 r (by decide) (by decide) hr).symm, a2.trans (h.2.2.1 37 r (by decide) (by decide) hr).symm, a3.trans (h.2.2.1 38 r (by decide) (by decide) hr).symm, a4.trans (h.2.2.1 39 r (by decide) (by decide) hr).symm, fun p hp => ?_, fun p hp => ?_⟩
  · obtain ⟨b1, b2, b3, b4⟩ := a5 p hp
    exact ⟨b1.trans (h.2.2.2 40 _ (by decide) (by decide) (by omega)).symm, b2.trans (h.2.2.2 41 _ (by decide) (by decide) (by omega)).symm, b3.trans (h.2.2.2 42 _ (by decide) (by decide) (by omega)).symm, b4.trans (h.2.2.2 43 _ (by decide) (by decide) (by omega)).symm⟩
  · rw [h.mIn]
    exact a6 p hp
theorem frX.R {T : Tx} {s s' c : St} (h : frX s s') (hR : Rm T s 0 c) : Rm T s' 0 c := ⟨h.T hR.1, h.C (by decide) hR.2.1, hR.2.2⟩
theorem Rm.z {T : Tx} {s c : St} {r : Nat} {x : Int32} (h : Rm T s r c) : Rm T (mI s 0 x) r c := h
theorem relC.r0 {T : Tx} {s c : St} (h : relC T s 0 c) {p : Nat} (hp : p < 6) : c.2.1 3 p = s.2.1 40 p ∧ c.2.1 4 p = s.2.1 41 p ∧ c.2.1 5 p = s.2.1 42 p ∧ c.2.1 6 p = s.2.1 43 p := by
  have := h.2.2.2.2.2.1 p hp
  simpa using this
/-- nothing is tried, no length supposed -/
def qui (s : St) : Prop := s.1 46 = 0 ∧ s.1 48 = -1
theorem qui.fr {s s' : St} (h : qui s) (f : frX s s') : qui s' := ⟨(f.1 46 (by decide) (by decide) (by decide)).trans h.1, (f.1 48 (by decide) (by decide) (by decide)).trans h.2⟩
theorem qui.mIn {s : St} (h : qui s) {p : Nat} (hp : p < 6) : mIn s p = s.2.1 5 p := by
  show (if nI p = s.1 48 then s.1 49 else s.2.1 5 p) = _
  rw [if_neg]
  rw [h.2]
  intro q
  have := nI_pos' (n := p) (by omega)
  rw [q] at this
  exact absurd this (by decide)
theorem isMan_of {T : Tx} {f : Nat → Nat → Int32} {x : Int32} (hT : relT T f) (h : isManB (f 3 0) x = true) : ∃ p, x = nI p ∧ p < nat (T.1.1 0) ∧ p < 6 := by
  unfold isManB at h
  rw [Bool.and_eq_true, decide_eq_true_eq, decide_eq_true_eq] at h
  obtain ⟨p, hp, rfl⟩ := nI_of h.1
  have h1 := hT.1.1
  rw [h1.1] at h
  have : p < nat (f 3 0) := Nat.not_le.mp fun z => h.2 (nI_le z hp)
  exact ⟨p, rfl, by rw [hT.1.2.1]; exact this, by have := h1.2; omega⟩
theorem isInch_of {x : Int32} (h : isInchB x = true) : ∃ i, x = nI i ∧ i < 60 := by
  unfold isInchB at h
  rw [Bool.and_eq_true, decide_eq_true_eq, decide_eq_true_eq] at h
  obtain ⟨p, hp, rfl⟩ := nI_of h.1
  exact ⟨p, rfl, Nat.not_le.mp fun z => h.2 (nI_le (a := 60) z hp)⟩
theorem findF_congr {f g : Nat → Int32} {x : Int32} : ∀ (k i : Nat), (∀ j, j < i + k → f j = g j) → findF f x k i = findF g x k i := by
  intro k
  induction k with
  | zero => intro i _; rfl
  | succ k ih => intro i h; unfold findF; rw [h i (by omega), ih (i + 1) (fun j hj => h j (by omega))]
theorem sumI_congr {f g : Nat → Int32} : ∀ (n : Nat), (∀ j, j < n → f j = g j) → sumI f n = sumI g n := by
  intro n
  induction n with
  | zero => intro _; rfl
  | succ n ih => intro h; unfold sumI; rw [h n (by omega), ih (fun j hj => h j (by omega))]
theorem cntF0_congr {f g : Nat → Int32} : ∀ (n : Nat), (∀ j, j < n → f j = g j) → cntF0 f n = cntF0 g n := by
  intro n
  induction n with
  | zero => intro _; rfl
  | succ n ih => intro h; unfold cntF0; rw [h n (by omega), ih (fun j hj => h j (by omega))]
/-- a set of PEOPLE as bits -/
def setN (f : Nat → Bool) : Nat → Nat
  | 0 => 0
  | k + 1 => setN f k + (if f k = true then 2 ^ k else 0)
def cntB (f : Nat → Bool) : Nat → Nat
  | 0 => 0
  | k + 1 => cntB f k + (if f k = true then 1 else 0)
theorem setN_lt (f : Nat → Bool) : ∀ n, setN f n < 2 ^ n := by
  intro n
  induction n with
  | zero => exact (show (0 : Nat) < 1 by decide)
  | succ n ih => unfold setN; rw [Nat.pow_succ]; split <;> omega
theorem bc64 : ∀ m, m < 64 → bcI (nI m) = nI (cntB (fun i => m.testBit i) 6) ∧ bitsF (nI m) 30 = nI (cntB (fun i => m.testBit i) 6) := by decide +kernel
theorem or64 : ∀ k, k < 6 → ∀ m, m < 2 ^ k → nI m ||| bitM k = nI (m + 2 ^ k) := by
  intro k hk
  have : k = 0 ∨ k = 1 ∨ k = 2 ∨ k = 3 ∨ k = 4 ∨ k = 5 := by omega
  rcases this with rfl | rfl | rfl | rfl | rfl | rfl <;> decide +kernel
theorem outM_set {f : Nat → Int32} : ∀ n, n ≤ 6 → outM f n = nI (setN (fun p => decide (f p = 0)) n) := by
  intro n
  induction n with
  | zero => intro _; rfl
  | succ n ih =>
    intro h
    unfold outM setN
    rw [ih (by omega)]
    by_cases q : f n = 0
    · rw [if_pos q, if_pos (decide_eq_true q)]
      exact or64 n (by omega) _ (setN_lt _ n)
    · rw [if_neg q, if_neg (by simp [q])]
      exact Int32.or_zero
theorem litM_set {f : Nat → Int32} : ∀ n, n ≤ 6 → litM f n = nI (setN (fun p => decide (¬ f p = 0)) n) := by
  intro n
  induction n with
  | zero => intro _; rfl
  | succ n ih =>
    intro h
    unfold litM setN
    rw [ih (by omega)]
    by_cases q : f n = 0
    · rw [if_pos q, if_neg (by simp [q])]
      exact Int32.or_zero
    · rw [if_neg q, if_pos (by simp [q])]
      exact or64 n (by omega) _ (setN_lt _ n)
theorem setN_bit {f : Nat → Bool} : ∀ n i, (setN f n).testBit i = (decide (i < n) && f i) := by
  intro n
  induction n with
  | zero => intro i; simp [setN]
  | succ n ih =>
    intro i
    unfold setN
    by_cases q : f n = true
    · rw [if_pos q, or_add_bit (by rw [ih]; simp), Nat.testBit_or, ih, Nat.testBit_two_pow]
      by_cases e : i = n
      · subst e; simp [q]
      · by_cases l : i < n
        · have l2 : i < n + 1 := by omega
          simp [l, l2, Ne.symm e]
        · have l2 : ¬ i < n + 1 := by omega
          simp [l, l2, Ne.symm e]
    · rw [if_neg q, Nat.add_zero, ih]
      by_cases e : i = n
      · subst e; simp [q]
      · by_cases l : i < n
        · have l2 : i < n + 1 := by omega
          simp [l, l2]
        · have l2 : ¬ i < n + 1 := by omega
          simp [l, l2]
theorem cntB_congr {f g : Nat → Bool} : ∀ n, (∀ j, j < n → f j = g j) → cntB f n = cntB g n := by
  intro n
  induction n with
  | zero => intro _; rfl
  | succ n ih => intro h; unfold cntB; rw [h n (by omega), ih (fun j hj => h j (by omega))]
theorem cntB_ext {f : Nat → Bool} {n m : Nat} (h : ∀ j, n ≤ j → f j = false) (hm : n ≤ m) : cntB f m = cntB f n := by
  induction m with
  | zero => rw [show n = 0 by omega]
  | succ m ih =>
    by_cases q : n = m + 1
    · rw [q]
    · show cntB f m + (if f m = true then 1 else 0) = cntB f n
      rw [h m (by omega), ih (by omega)]
      rfl
theorem cntF0_B {f : Nat → Int32} : ∀ n, cntF0 f n = nI (cntB (fun p => decide (f p = 0)) n) := by
  intro n
  induction n with
  | zero => rfl
  | succ n ih =>
    unfold cntF0 cntB
    rw [ih]
    by_cases q : f n = 0
    · rw [if_pos q, if_pos (decide_eq_true q), nI_1]
    · rw [if_neg q, if_neg (by simp [q])]
      exact Int32.add_zero _
theorem out_count {f : Nat → Int32} {n : Nat} (hn : n ≤ 6) : bcI (outM f n) = cntF0 f n := by
  have hl := setN_lt (fun p => decide (f p = 0)) n
  have h64 : (2 : Nat) ^ n ≤ 2 ^ 6 := Nat.pow_le_pow_right (by decide) hn
  rw [outM_set n hn, (bc64 _ (by omega)).1, cntF0_B]
  congr 1
  rw [cntB_congr (g := fun i => decide (i < n) && decide (f i = 0)) 6 (fun j _ => by rw [setN_bit]), cntB_ext (n := n) (fun j hj => by simp [Nat.not_lt.mpr hj]) hn]
  exact cntB_congr n (fun j hj => by simp [hj])
theorem june_iff {T : Tx} {f : Nat → Nat → Int32} {p i : Nat} (hT : relT T f) (hp : p < 6) (hi : i < 60) : tJune T.1 p (nI i) = isJF (f 6) (f 7) (nI p) (nI i) (nat (f 3 1)) 0 := by
  obtain ⟨j1, j2, j3, j4, j5⟩ := hT.2.1
  have h1 : ∀ n k, (isJF (f 6) (f 7) (nI p) (nI i) n k = true ↔ ∃ q, k ≤ q ∧ q < k + n ∧ f 6 q = nI p ∧ f 7 q = nI i) := by
    intro n
    induction n with
    | zero => intro k; constructor
              · intro z; cases z
              · rintro ⟨q, a, b, _⟩; omega
    | succ n ih =>
      intro k
      unfold isJF
      by_cases e : f 6 k = nI p ∧ f 7 k = nI i
      · rw [if_pos e]
        exact ⟨fun _ => ⟨k, Nat.le_refl _, by omega, e⟩, fun _ => rfl⟩
      · rw [if_neg e, ih]
        constructor
        · rintro ⟨q, a, b, c⟩; exact ⟨q, by omega, by omega, c⟩
        · rintro ⟨q, a, b, c⟩
          refine ⟨q, ?_, by omega, c⟩
          by_cases z : q = k
          · subst z; exact absurd c e
          · omega
  have h2 : tJune T.1 p (nI i) = true ↔ (T.1.2.2.1 3 p).toBitVec.getLsbD i = true := by
    unfold tJune
    rw [decide_eq_true_eq]
    have : (T.1.2.2.1 3 p >>> ((nI i).toInt64 &&& 63)) &&& 1 = 0 ↔ (T.1.2.2.1 3 p).toBitVec.getLsbD i = false := by
      rw [wb_c i (by omega)]
      constructor
      · intro z
        have := congrArg (fun y => y.toBitVec.getLsbD 0) z
        simp only [Int64.toBitVec_and, BitVec.getLsbD_and] at this
        rw [Int64.toBitVec_shiftRight, wb_tb, wb_sm i (by omega)] at this
        simp only [BitVec.sshiftRight', BitVec.toNat_ofNat, Nat.mod_eq_of_lt (show i < 2 ^ 64 by omega), BitVec.getLsbD_sshiftRight] at this
        simpa [show i < 64 by omega] using this
      · intro z
        apply wb_inj
        apply BitVec.eq_of_getLsbD_eq
        intro q hq
        rw [Int64.toBitVec_and, BitVec.getLsbD_and]
        have e1 : (1 : Int64).toBitVec.getLsbD q = decide (q = 0) := by
          show (1#64).getLsbD q = _
          rw [BitVec.getLsbD_one]
          simp
        have e0 : (0 : Int64).toBitVec.getLsbD q = false := by
          show (0#64).getLsbD q = false
          simp
        rw [e1, e0]
        by_cases hq0 : q = 0
        · subst hq0
          rw [Int64.toBitVec_shiftRight, wb_tb, wb_sm i (by omega)]
          simp only [BitVec.sshiftRight', BitVec.toNat_ofNat, Nat.mod_eq_of_lt (show i < 2 ^ 64 by omega), BitVec.getLsbD_sshiftRight]
          simpa [show i < 64 by omega] using z
        · simp [hq0]
    rw [this]
    simp
  rw [Bool.eq_iff_iff, h2, j5 p hp, juneF_bit _ (fun k hk => (j3 k hk).2) i (by omega), h1]
  constructor
  · rintro ⟨q, a, b, _, c⟩
    refine ⟨q, Nat.zero_le _, by omega, b, ?_⟩
    rw [((j3 q a).2).1, c]
  · rintro ⟨q, _, a, b, c⟩
    refine ⟨q, by omega, b, rfl, ?_⟩
    rw [c]
    exact nI_clamp (by omega)
def areTwoB (n x y : Int32) : Bool := isManB n x && isManB n y && decide (¬ x = y)
def aJune (T : Tx) (c : St) (x y : Int32) : Int32 := if isManB (T.1.1 0) x = true ∧ isInchB y = true then (if tJune T.1 (nat x) y = true then (if cIsLeft c (nat x) y = true then 2 else 1) else 0) else -1
def aLend (T : Tx) (x : Int32) : Int32 := if isManB (T.1.1 0) x = true then T.1.2.1 4 (nat x) else -1
def aRecall (T : Tx) (c : St) (x : Int32) : Int32 := if isManB (T.1.1 0) x = true then aRec T c (nat x) else -1
def aLaw (T : Tx) (c : St) (w x : Int32) : Int64 := if isManB (T.1.1 0) x = true ∧ ¬ w < 0 ∧ ¬ 2 < w then tW T (nat w) c (nat x) (tWindy T.1) else ERR
def aKeep (T : Tx) (c : St) (x y : Int32) : Int32 := if isManB (T.1.1 0) x = true ∧ isInchB y = true then (if cIsLeft c (nat x) y = true then cMax (y - c.2.1 3 (nat x)) (c.2.1 1 (nat x) - c.2.1 4 (nat x) - 1 - y) else -2) else -1
def aFault (w p x : Int32) : Int32 := if x = 0 then w else if x = 1 then p else -1
def aManC (T : Tx) (x y : Int32) : Int32 := if isManB (T.1.1 0) x = true then (if y < 0 then 2 else if 7 < y then 2 else 0) else 1
def aManV (T : Tx) (c : St) (p : Nat) (y : Int32) : Int32 := if y = 0 then T.1.2.1 2 p else if y = 1 then cLeft c p else if y = 2 then (if cLeft c p = 0 then -2 else c.2.1 3 p) else if y = 3 then (if cLeft c p = 0 then -2 else c.2.1 1 p - c.2.1 4 p - 1) else if y = 4 then c.2.1 5 p else if y = 5 then cJunesLeft c p else if y = 6 then bI (seesB (litM (c.2.1 5) (nat (T.1.1 0))) (T.1.2.1 4 p) p) else c.2.1 6 p
def aCount (T : Tx) (c u f : St) (x : Int32) : Int32 := if x = 0 then T.1.1 0 else if x = 1 then T.1.1 5 else if x = 2 then T.2.1.1 0 else if x = 3 then T.2.2.1.1 0 else if x = 4 then T.2.2.2.1 0 else if x = 5 then c.1 7 else if x = 6 then sumI (cLeft c) (nat (T.1.1 0)) else if x = 7 then bcI (outM (cLeft c) (nat (T.1.1 0))) else if x = 8 then sumI (fun p => bcI (c.2.1 5 p)) (nat (T.1.1 0)) else if x = 9 then c.1 8 else if x = 10 then c.1 9 else if x = 11 then sumI (c.2.1 6) (nat (T.1.1 0)) else if x = 12 then f.1 0 else if x = 13 then fBy f else if x = 14 then u.1 0 else -1
