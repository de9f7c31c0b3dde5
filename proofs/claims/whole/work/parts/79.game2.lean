/-! The model: game -/
def bd (x : Int32) (m : Nat) : Prop := -(m : Int) ≤ x.toInt ∧ x.toInt ≤ m
theorem bd.sub {x y : Int32} {m k : Nat} (h : bd x m) (h2 : bd y k) (hm : m + k < 1000) : bd (x - y) (m + k) := by
  unfold bd at *
  rw [Int32.toInt_sub, Int.bmod_eq_of_le (by omega) (by omega)]
  omega
theorem bd.add {x y : Int32} {m k : Nat} (h : bd x m) (h2 : bd y k) (hm : m + k < 1000) : bd (x + y) (m + k) := by
  unfold bd at *
  rw [Int32.toInt_add, Int.bmod_eq_of_le (by omega) (by omega)]
  omega
theorem bd.max {x y : Int32} {m : Nat} (h : bd x m) (h2 : bd y m) : bd (cMax x y) m := by
  unfold cMax
  split
  · exact h2
  · exact h
theorem bd.mono {x : Int32} {m k : Nat} (h : bd x m) (hk : m ≤ k) : bd x k := by
  unfold bd at *
  omega
theorem max60 {x : Int32} {m : Nat} (h : bd x m) (hm : m ≤ 60) : cMax (-60) x = x := by
  unfold cMax
  split
  · rfl
  · rename_i q
    have e : (-60 : Int32).toInt = -60 := by decide
    have : ¬ (-60 : Int32).toInt < x.toInt := fun z => q (Int32.lt_iff_toInt_lt.mpr z)
    unfold bd at h
    exact Int32.toInt_inj.mp (by omega)
theorem bet1 {p : Int32 × Int32} {w h : Int32} : (bet p w h).1 = cMax p.1 w := by
  unfold bet cMax
  split <;> rfl
theorem settle1 {g o1 o2 : Nat → Int32} {fr ln : Nat} : (settleP g o1 o2 fr ln).1 = if ln ≤ 1 then cMax (g fr - o1 (fr + 1)) (g (fr + ln - 1) - o1 fr) else cMax (cMax (cMax (g fr - o1 (fr + 1)) (g fr + g (fr + 1) - o2 (fr + 2))) (g (fr + ln - 1) - o1 fr)) (g (fr + ln - 1) + g (fr + ln - 1 - 1) - o2 fr) := by
  unfold settleP
  by_cases h : ln ≤ 1
  · simp only [if_pos h, bet1]
  · simp only [if_neg h, bet1]
theorem settle_bd {g o1 o2 : Nat → Int32} {fr ln : Nat} (hg : ∀ k, bd (g k) 1) (h1 : 1 ≤ ln) (h60 : ln ≤ 60) (ho : ∀ k, bd (o1 k) (ln - 1)) (ho2 : 2 ≤ ln → ∀ k, bd (o2 k) (ln - 2)) : bd (settleP g o1 o2 fr ln).1 ln := by
  have a : ∀ x y, bd (g x - o1 y) ln := fun x y => ((hg x).sub (ho y) (by omega)).mono (by omega)
  rw [settle1]
  by_cases h : ln ≤ 1
  · rw [if_pos h]
    exact (a _ _).max (a _ _)
  · rw [if_neg h]
    have b : ∀ x y z, bd (g x + g y - o2 z) ln := fun x y z => ((((hg x).add (hg y) (by omega))).sub (ho2 (by omega) z) (by omega)).mono (by omega)
    exact (((a _ _).max (b _ _ _)).max (a _ _)).max (b _ _ _)
theorem rows_bd {g : Nat → Int32} (hg : ∀ k, bd (g k) 1) : ∀ n, n ≤ 60 → (∀ k, bd ((rowsF g n).1 k) n) ∧ (1 ≤ n → ∀ k, bd ((rowsF g n).2 k) (n - 1)) := by
  intro n
  induction n with
  | zero => exact fun _ => ⟨fun k => (show bd 0 0 by unfold bd; decide), fun z => absurd z (by decide)⟩
  | succ n ih =>
    intro hn
    have h := ih (by omega)
    refine ⟨fun k => ?_, fun _ k => h.1 k⟩
    exact settle_bd hg (by omega) hn (fun k => h.1 k) (fun h2 k => (h.2 (by omega) k).mono (by omega))
def gK (T : Tx) (p t k : Nat) : Int32 := gF T p (t + k)
theorem gK_bd {T : Tx} {p t : Nat} (k : Nat) : bd (gK T p t k) 1 := by
  unfold gK gF
  split
  · exact (show bd 1 1 by unfold bd; decide)
  · exact (show bd 0 1 by unfold bd; decide)
def GR (T : Tx) (p t l : Nat) (r : Nat → Int32) (n i : Nat) : Prop := ∀ j q, q + j ≤ l → (j < n ∨ (j = n ∧ q < i)) → r (61 * (t + q) + j) = (rowsF (gK T p t) j).1 q
theorem gn1 {T : Tx} {p f : Nat} : gnF T p f 1 = gF T p f := Int32.zero_add _
theorem gn2 {T : Tx} {p f : Nat} : gnF T p f 2 = gF T p f + gF T p (f + 1) := by
  show gnF T p f 1 + _ = _
  rw [gn1]
/-- what the four ways get -/
theorem ways {T : Tx} {p t l n i : Nat} {r : Nat → Int32} (h1 : 1 ≤ n) (hi : i + n ≤ l) (H : GR T p t l r n i) :
    tkF T r p (t + i) n 0 1 = gK T p t i - (rowsF (gK T p t) (n - 1)).1 (i + 1) ∧ tkF T r p (t + i) n 1 1 = gK T p t (i + n - 1) - (rowsF (gK T p t) (n - 1)).1 i ∧
    (2 ≤ n → tkF T r p (t + i) n 0 2 = gK T p t i + gK T p t (i + 1) - (rowsF (gK T p t) (n - 1)).2 (i + 2) ∧ tkF T r p (t + i) n 1 2 = gK T p t (i + n - 1) + gK T p t (i + n - 1 - 1) - (rowsF (gK T p t) (n - 1)).2 i) := by
  unfold tkF
  refine ⟨?_, ?_, fun h2 => ⟨?_, ?_⟩⟩
  · rw [if_pos rfl, if_pos rfl, gn1, show t + i + 1 = t + (i + 1) by omega, H (n - 1) (i + 1) (by omega) (by omega)]
    rfl
  · rw [if_neg (by decide), if_neg (by decide), gn1, H (n - 1) i (by omega) (by omega), show t + i + n - 1 = t + (i + n - 1) by omega]
    rfl
  · rw [if_pos rfl, if_pos rfl, gn2, show t + i + 2 = t + (i + 2) by omega, H (n - 2) (i + 2) (by omega) (by omega)]
    obtain ⟨k, rfl⟩ : ∃ k, n = k + 2 := ⟨n - 2, by omega⟩
    rfl
  · rw [if_neg (by decide), if_neg (by decide), gn2, H (n - 2) i (by omega) (by omega)]
    obtain ⟨k, rfl⟩ : ∃ k, n = k + 2 := ⟨n - 2, by omega⟩
    rw [show t + i + (k + 2) - 2 = t + (i + (k + 2) - 1 - 1) by omega, show t + (i + (k + 2) - 1 - 1) + 1 = t + (i + (k + 2) - 1) by omega, Int32.add_comm]
    rfl
theorem best_eq {T : Tx} {p t l n i : Nat} {r : Nat → Int32} (h1 : 1 ≤ n) (h60 : n ≤ 60) (hi : i + n ≤ l) (H : GR T p t l r n i) : beF T r p (t + i) n 2 0 (-60) = (rowsF (gK T p t) n).1 i := by
  obtain ⟨w1, w2, w3⟩ := ways h1 hi H
  obtain ⟨k, rfl⟩ : ∃ k, n = k + 1 := ⟨n - 1, by omega⟩
  rw [rowsF]
  show _ = (settleP _ _ _ i (k + 1)).1
  rw [settle1]
  have hb := (rows_bd (g := gK T p t) gK_bd k (by omega)).1
  have b1 : bd (gK T p t i - (rowsF (gK T p t) k).1 (i + 1)) (1 + k) := (gK_bd _).sub (hb _) (by omega)
  simp only [Nat.add_sub_cancel] at w1 w2 w3
  by_cases h : k + 1 ≤ 1
  · rw [if_pos h]
    show beF T r p (t + i) (k + 1) 0 2 (bwF T r p (t + i) (k + 1) 1 (if k + 1 < 2 then 1 else 2) 1 (bwF T r p (t + i) (k + 1) 0 (if k + 1 < 2 then 1 else 2) 1 (-60))) = _
    rw [if_pos (by omega)]
    show cMax (cMax (-60) (tkF T r p (t + i) (k + 1) 0 1)) (tkF T r p (t + i) (k + 1) 1 1) = _
    rw [w1, w2, max60 b1 (by omega)]
  · rw [if_neg h]
    obtain ⟨w4, w5⟩ := w3 (by omega)
    show beF T r p (t + i) (k + 1) 0 2 (bwF T r p (t + i) (k + 1) 1 (if k + 1 < 2 then 1 else 2) 1 (bwF T r p (t + i) (k + 1) 0 (if k + 1 < 2 then 1 else 2) 1 (-60))) = _
    rw [if_neg (by omega)]
    show cMax (cMax (cMax (cMax (-60) (tkF T r p (t + i) (k + 1) 0 1)) (tkF T r p (t + i) (k + 1) 0 2)) (tkF T r p (t + i) (k + 1) 1 1)) (tkF T r p (t + i) (k + 1) 1 2) = _
    rw [w1, w2, w4, w5, max60 b1 (by omega)]
theorem GR.step {T : Tx} {p t l n i : Nat} {s : St} {v : Int32} (H : GR T p t l (s.2.1 54) n i) (hl : t + l ≤ 60) (hi : i + n ≤ l) (hv : v = (rowsF (gK T p t) n).1 i) : GR T p t l ((mA s 54 (61 * (t + i) + n) v).2.1 54) n (i + 1) := by
  intro j q hq hj
  rw [mA_at]
  by_cases e : j = n ∧ q = i
  · obtain ⟨rfl, rfl⟩ := e
    rw [if_pos rfl, hv]
  · rw [if_neg (by omega)]
    exact H j q hq (by omega)
theorem int_lt {x y : Int32} : x < y ↔ x.toInt < y.toInt := Int32.lt_iff_toInt_lt
theorem int_eq {x y : Int32} : x = y ↔ x.toInt = y.toInt := Int32.toInt_inj.symm
theorem move2 (x z : Int32) : (bet (x, 1) z 11).2 = if x = (bet (x, 1) z 11).1 then 1 else 11 := by
  unfold bet
  by_cases h : x < z
  · simp only [if_pos h]
    rw [int_lt] at h
    rw [if_neg (by rw [int_eq]; omega)]
  · simp only [if_neg h, if_true]
theorem move4 (x y z w : Int32) (V M : Int32) (h : bet (bet (bet (x, 1) y 2) z 11) w 12 = (V, M)) : M = if x = V then 1 else if y = V then 2 else if z = V then 11 else 12 := by
  unfold bet at h
  simp only [int_lt] at h
  by_cases a : x.toInt < y.toInt
  · simp only [if_pos a] at h
    by_cases b : y.toInt < z.toInt
    · simp only [if_pos b] at h
      by_cases c : z.toInt < w.toInt
      · simp only [if_pos c] at h
        obtain ⟨rfl, rfl⟩ := Prod.mk.inj h
        rw [if_neg (by rw [int_eq]; omega), if_neg (by rw [int_eq]; omega), if_neg (by rw [int_eq]; omega)]
      · simp only [if_neg c] at h
        obtain ⟨rfl, rfl⟩ := Prod.mk.inj h
        rw [if_neg (by rw [int_eq]; omega), if_neg (by rw [int_eq]; omega), if_pos rfl]
    · simp only [if_neg b] at h
      by_cases c : y.toInt < w.toInt
      · simp only [if_pos c] at h
        obtain ⟨rfl, rfl⟩ := Prod.mk.inj h
        rw [if_neg (by rw [int_eq]; omega), if_neg (by rw [int_eq]; omega), if_neg (by rw [int_eq]; omega)]
      · simp only [if_neg c] at h
        obtain ⟨rfl, rfl⟩ := Prod.mk.inj h
        rw [if_neg (by rw [int_eq]; omega), if_pos rfl]
  · simp only [if_neg a] at h
    by_cases b : x.toInt < z.toInt
    · simp only [if_pos b] at h
      by_cases c : z.toInt < w.toInt
      · simp only [if_pos c] at h
        obtain ⟨rfl, rfl⟩ := Prod.mk.inj h
        rw [if_neg (by rw [int_eq]; omega), if_neg (by rw [int_eq]; omega), if_neg (by rw [int_eq]; omega)]
      · simp only [if_neg c] at h
        obtain ⟨rfl, rfl⟩ := Prod.mk.inj h
        rw [if_neg (by rw [int_eq]; omega), if_neg (by rw [int_eq]; omega), if_pos rfl]
    · simp only [if_neg b] at h
      by_cases c : x.toInt < w.toInt
      · simp only [if_pos c] at h
        obtain ⟨rfl, rfl⟩ := Prod.mk.inj h
        rw [if_neg (by rw [int_eq]; omega), if_neg (by rw [int_eq]; omega), if_neg (by rw [int_eq]; omega)]
      · simp only [if_neg c] at h
        obtain ⟨rfl, rfl⟩ := Prod.mk.inj h
        rw [if_pos rfl]
theorem cMax_or (x y : Int32) : cMax x y = x ∨ cMax x y = y := by
  unfold cMax
  split
  · exact Or.inr rfl
  · exact Or.inl rfl
theorem game_move {T : Tx} {p t l : Nat} {r : Nat → Int32} (h1 : 1 ≤ l) (H : GR T p t l r l 0) {V M : Int32} (hV : gameP (gK T p t) l = (V, M)) :
    (tkF T r p t l 0 1 = V → M = 1) ∧ (¬ tkF T r p t l 0 1 = V → 2 ≤ l → tkF T r p t l 0 2 = V → M = 2) ∧ (¬ tkF T r p t l 0 1 = V → (2 ≤ l → ¬ tkF T r p t l 0 2 = V) → tkF T r p t l 1 1 = V → M = 11) ∧
    (2 ≤ l → ¬ tkF T r p t l 0 1 = V → ¬ tkF T r p t l 0 2 = V → ¬ tkF T r p t l 1 1 = V → M = 12) ∧
    ¬ (¬ tkF T r p t l 0 1 = V ∧ (2 ≤ l → ¬ tkF T r p t l 0 2 = V) ∧ ¬ tkF T r p t l 1 1 = V ∧ (2 ≤ l → ¬ tkF T r p t l 1 2 = V)) := by
  obtain ⟨k, rfl⟩ : ∃ k, l = k + 1 := ⟨l - 1, by omega⟩
  obtain ⟨w1, w2, w3⟩ := ways (i := 0) h1 (by omega) H
  rw [Nat.add_zero] at w1 w2
  simp only [Nat.add_sub_cancel, Nat.add_zero, Nat.zero_add] at w1 w2 w3
  rw [gameP] at hV
  have hs : (settleP (gK T p t) (rowsF (gK T p t) k).1 (rowsF (gK T p t) k).2 0 (k + 1)).1 = V := congrArg Prod.fst hV
  rw [settle1] at hs
  unfold settleP at hV
  simp only [Nat.zero_add, Nat.add_sub_cancel] at hV hs
  by_cases h : k + 1 ≤ 1
  · simp only [if_pos h] at hV hs
    have m2 := move2 (gK T p t 0 - (rowsF (gK T p t) k).1 1) (gK T p t k - (rowsF (gK T p t) k).1 0)
    rw [hV, ← w1] at m2
    refine ⟨fun a => m2.trans (if_pos a), fun _ a => absurd a (by omega), fun a _ _ => m2.trans (if_neg a), fun a => absurd a (by omega), fun q => ?_⟩
    rw [← w1, ← w2] at hs
    rcases cMax_or (tkF T r p t (k + 1) 0 1) (tkF T r p t (k + 1) 1 1) with z | z <;> rw [z] at hs
    · exact q.1 hs
    · exact q.2.2.1 hs
  · simp only [if_neg h] at hV hs
    obtain ⟨w4, w5⟩ := w3 (by omega)
    have m4 := move4 _ _ _ _ _ _ hV
    rw [← w1, ← w2, ← w4] at m4
    rw [← w1, ← w2, ← w4, ← w5] at hs
    refine ⟨fun a => m4.trans (if_pos a), fun a _ b => m4.trans ((if_neg a).trans (if_pos b)), fun a b e => m4.trans ((if_neg a).trans ((if_neg (b (by omega))).trans (if_pos e))), fun _ a b e => m4.trans ((if_neg a).trans ((if_neg b).trans (if_neg e))), fun q => ?_⟩
    obtain ⟨q1, q2, q3, q4⟩ := q
    rcases cMax_or (cMax (cMax (tkF T r p t (k + 1) 0 1) (tkF T r p t (k + 1) 0 2)) (tkF T r p t (k + 1) 1 1)) (tkF T r p t (k + 1) 1 2) with z | z <;> rw [z] at hs
    · rcases cMax_or (cMax (tkF T r p t (k + 1) 0 1) (tkF T r p t (k + 1) 0 2)) (tkF T r p t (k + 1) 1 1) with z | z <;> rw [z] at hs
      · rcases cMax_or (tkF T r p t (k + 1) 0 1) (tkF T r p t (k + 1) 0 2) with z | z <;> rw [z] at hs
        · exact q1 hs
        · exact q2 (by omega) hs
      · exact q3 hs
    · exact q4 (by omega) hs
