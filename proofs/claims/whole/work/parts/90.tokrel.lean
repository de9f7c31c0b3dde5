/-! The TOKENS of the model are the class's -/
theorem nx_or (a b : Nat) : nI a ||| nI b = nI (a ||| b) := by
  apply Int32.toBitVec_inj.1
  show BitVec.ofNat 32 a ||| BitVec.ofNat 32 b = BitVec.ofNat 32 (a ||| b)
  apply BitVec.eq_of_getLsbD_eq
  intro i hi
  simp [hi]
theorem let_N {c : Int32} (h : letB c = true) : ∃ m, c = nI m ∧ 97 ≤ m ∧ m ≤ 122 := by
  unfold letB at h
  simp only [Bool.and_eq_true, decide_eq_true_eq] at h
  obtain ⟨h1, h2⟩ := h
  have h0 : ¬ c < 0 := fun z => h1 (Int32.lt_trans z (by decide))
  obtain ⟨j, hj, rfl⟩ := nI_of h0
  refine ⟨j, rfl, ?_, ?_⟩
  · exact Nat.not_lt.mp fun z => h1 (nI_lt (a := j) (b := 97) z (by decide))
  · exact Nat.not_lt.mp fun z => h2 (nI_lt (a := 122) (b := j) z hj)
theorem dig_N {c : Int32} (h : digB c = true) : ∃ m, c = nI m ∧ 48 ≤ m ∧ m ≤ 57 := by
  unfold digB at h
  simp only [Bool.and_eq_true, decide_eq_true_eq] at h
  obtain ⟨h1, h2⟩ := h
  have h0 : ¬ c < 0 := fun z => h1 (Int32.lt_trans z (by decide))
  obtain ⟨j, hj, rfl⟩ := nI_of h0
  refine ⟨j, rfl, ?_, ?_⟩
  · exact Nat.not_lt.mp fun z => h1 (nI_lt (a := j) (b := 48) z (by decide))
  · exact Nat.not_lt.mp fun z => h2 (nI_lt (a := 57) (b := j) z hj)
/-- letters as digits of 32 -/
def dgN (b : Nat → Int32) (q e k : Nat) : Nat := if q + k < e then nat (b (q + k)) - 96 else 0
def vN (g : Nat → Nat) : Nat → Nat
  | 0 => 0
  | k + 1 => vN g k * 32 + g k
theorem vN_lt {g : Nat → Nat} (hg : ∀ k, g k < 32) : ∀ k, vN g k < 32 ^ k := by
  intro k
  induction k with
  | zero => exact Nat.zero_lt_one
  | succ k ih =>
    have := hg k
    rw [vN, Nat.pow_succ]
    omega
theorem vN_inj {g h : Nat → Nat} (hg : ∀ k, g k < 32) (hh : ∀ k, h k < 32) : ∀ k, vN g k = vN h k → ∀ i, i < k → g i = h i := by
  intro k
  induction k with
  | zero => intro _ i hi; omega
  | succ k ih =>
    intro e i hi
    have a1 := hg k
    have a2 := hh k
    rw [vN, vN] at e
    by_cases z : i = k
    · rw [z]; omega
    · exact ih (by omega) i (by omega)
theorem vN_eq {g h : Nat → Nat} : ∀ k, (∀ i, i < k → g i = h i) → vN g k = vN h k := by
  intro k
  induction k with
  | zero => intro _; rfl
  | succ k ih =>
    intro e
    rw [vN, vN, ih (fun i hi => e i (by omega)), e k (by omega)]
theorem vN_pad {g : Nat → Nat} {k : Nat} : ∀ j, (∀ i, k ≤ i → g i = 0) → vN g (k + j) = vN g k * 32 ^ j := by
  intro j
  induction j with
  | zero => intro _; simp
  | succ j ih =>
    intro h
    show vN g (k + j) * 32 + g (k + j) = _
    rw [ih h, h (k + j) (by omega), Nat.pow_succ, Nat.add_zero, Nat.mul_assoc]
theorem dgN_lt {b : Nat → Int32} {q e : Nat} (hl : ∀ k, q + k < e → letB (b (q + k)) = true) : ∀ k, dgN b q e k < 32 := by
  intro k
  unfold dgN
  split
  · rename_i h
    obtain ⟨m, h1, h2, h3⟩ := let_N (hl k h)
    rw [h1, show nat (nI m) = m from nI_clamp (by omega)]
    omega
  · omega
theorem dg_I {b : Nat → Int32} {q e k : Nat} (hl : ∀ k, q + k < e → letB (b (q + k)) = true) (h : q + k < e) : b (q + k) - 97 + 1 = nI (dgN b q e k) := by
  obtain ⟨m, h1, h2, h3⟩ := let_N (hl k h)
  unfold dgN
  rw [if_pos h, h1, show nat (nI m) = m from nI_clamp (by omega), show (97 : Int32) = nI 97 by decide, nI_subI h2, nI_1]
  exact congrArg nI (by omega)
theorem ho_N {b : Nat → Int32} {q e : Nat} (hl : ∀ k, q + k < e → letB (b (q + k)) = true) : ∀ k, k ≤ 6 → hoF b q e k = nI (vN (dgN b q e) k) := by
  intro k
  induction k with
  | zero => intro _; rfl
  | succ k ih =>
    intro hk
    have a1 := vN_lt (dgN_lt hl) k
    have a2 := dgN_lt hl k
    have a3 : 32 ^ k ≤ 32 ^ 5 := Nat.pow_le_pow_right (by decide) (by omega)
    have a4 : (32 : Nat) ^ 5 = 33554432 := by decide
    have hc : (if q + k < e then b (q + k) - 97 + 1 else 0) = nI (dgN b q e k) := by
      by_cases h : q + k < e
      · rw [if_pos h, dg_I hl h]
      · rw [if_neg h]; unfold dgN; rw [if_neg h]; rfl
    rw [hoF, hc, ih (by omega), pk_shlN _ 5 (by decide) (by omega), nx_or, vN]
    refine congrArg nI ?_
    have h5 := Nat.two_pow_add_eq_or_of_lt (i := 5) (b := dgN b q e k) (by omega) (vN (dgN b q e) k)
    rw [Nat.mul_comm _ (2 ^ 5), ← h5]
theorem or6 : ∀ k, k < 6 → ∀ V g : Nat, g < 32 → (V * 32 ^ (6 - k)) ||| (g * 2 ^ (25 - 5 * k)) = (V * 32 + g) * 32 ^ (5 - k) := by
  intro k hk V g hg
  have h6 : k = 0 ∨ k = 1 ∨ k = 2 ∨ k = 3 ∨ k = 4 ∨ k = 5 := by omega
  rcases h6 with rfl | rfl | rfl | rfl | rfl | rfl
  · have := Nat.two_pow_add_eq_or_of_lt (i := 30) (b := g * 2 ^ 25) (by omega) V
    rw [show V * 32 ^ (6 - 0) = 2 ^ 30 * V by omega, ← this]; omega
  · have := Nat.two_pow_add_eq_or_of_lt (i := 25) (b := g * 2 ^ 20) (by omega) V
    rw [show V * 32 ^ (6 - 1) = 2 ^ 25 * V by omega, ← this]; omega
  · have := Nat.two_pow_add_eq_or_of_lt (i := 20) (b := g * 2 ^ 15) (by omega) V
    rw [show V * 32 ^ (6 - 2) = 2 ^ 20 * V by omega, ← this]; omega
  · have := Nat.two_pow_add_eq_or_of_lt (i := 15) (b := g * 2 ^ 10) (by omega) V
    rw [show V * 32 ^ (6 - 3) = 2 ^ 15 * V by omega, ← this]; omega
  · have := Nat.two_pow_add_eq_or_of_lt (i := 10) (b := g * 2 ^ 5) (by omega) V
    rw [show V * 32 ^ (6 - 4) = 2 ^ 10 * V by omega, ← this]; omega
  · have := Nat.two_pow_add_eq_or_of_lt (i := 5) (b := g * 2 ^ 0) (by omega) V
    rw [show V * 32 ^ (6 - 5) = 2 ^ 5 * V by omega, ← this]; omega
theorem sh6 : ∀ k, k < 6 → (((5 * (nI 5 - nI k)) &&& 31).toBitVec.smod 32).toNat = 25 - 5 * k ∧ ¬ nI 5 - nI k < 0 ∧ 32 * 2 ^ (25 - 5 * k) < 2 ^ 32 := by decide +kernel
theorem pk_N {b : Nat → Int32} {q e : Nat} (hl : ∀ k, q + k < e → letB (b (q + k)) = true) : ∀ k, k ≤ 6 → q + k ≤ e → pkF b q k = nI (vN (dgN b q e) k * 32 ^ (6 - k)) := by
  intro k
  induction k with
  | zero => intro _ _; rw [vN, Nat.zero_mul]; rfl
  | succ k ih =>
    intro hk he
    obtain ⟨s1, s2, s3⟩ := sh6 k (by omega)
    have a2 := dgN_lt hl k
    have a5 : dgN b q e k * 2 ^ (25 - 5 * k) ≤ 32 * 2 ^ (25 - 5 * k) := Nat.mul_le_mul_right _ (by omega)
    rw [pkF, if_neg s2, ih (by omega) (by omega), dg_I hl (by omega), pk_shlN _ _ s1 (by omega), nx_or, or6 k (by omega) _ _ a2, vN, show 6 - (k + 1) = 5 - k by omega]
theorem ho_pk {b : Nat → Int32} {q e : Nat} (hl : ∀ k, q + k < e → letB (b (q + k)) = true) (hq : q ≤ e) (h6 : e - q ≤ 6) : hoF b q e 6 = pkF b q (e - q) ∧ pkF b q (e - q) = nI (vN (dgN b q e) 6) := by
  have h1 : vN (dgN b q e) 6 = vN (dgN b q e) (e - q) * 32 ^ (6 - (e - q)) := by
    have := vN_pad (g := dgN b q e) (k := e - q) (6 - (e - q)) (fun i hi => by unfold dgN; rw [if_neg (by omega)])
    rwa [show e - q + (6 - (e - q)) = 6 by omega] at this
  have h2 := pk_N hl (e - q) h6 (by omega)
  rw [← h1] at h2
  exact ⟨(ho_N hl 6 (by omega)).trans h2.symm, h2⟩
/-- the words of the language: the model's order, the class's kinds -/
def permW (w : Nat) : Nat := if w = 11 then 18 else if w = 12 then 19 else if w = 13 then 20 else if w < 11 then w else w - 3
def invW (i : Nat) : Nat := if i = 18 then 11 else if i = 19 then 12 else if i = 20 then 13 else if i < 11 then i else i + 3
theorem inv_W : ∀ i, i < 21 → invW i < 21 ∧ permW (invW i) = i := by decide +kernel
theorem perm_W : ∀ i, i < 21 → permW i < 21 ∧ invW (permW i) = i := by decide +kernel
def wdg (n k : Nat) : Nat := if k < lwF n then nat (chM (offF n + k)) - 96 else 0
theorem ww_N : ∀ n, n < 21 → wW.getD (permW n) 0 = nI (vN (wdg n) 6) ∧ vN (wdg n) 6 < 2 ^ 31 := by decide +kernel
theorem wd_ok : ∀ n, n < 21 → 0 < lwF n ∧ lwF n ≤ 6 ∧ ∀ i, i < lwF n → 97 ≤ nat (chM (offF n + i)) ∧ nat (chM (offF n + i)) ≤ 122 ∧ chM (offF n + i) = nI (nat (chM (offF n + i))) := by decide +kernel
theorem wdK_w : ∀ n, n < 21 → wdK (wW.getD (permW n) 0) 21 0 = nI (permW n) := by decide +kernel
theorem wdg_lt {n : Nat} (hn : n < 21) (k : Nat) : wdg n k < 32 := by
  unfold wdg
  split
  · rename_i h
    have := (wd_ok n hn).2.2 k h
    omega
  · omega
theorem mt_iff {b : Nat → Int32} {q e n : Nat} (hl : ∀ k, q + k < e → letB (b (q + k)) = true) (hq : q ≤ e) (h6 : e - q ≤ 6) (hn : n < 21) : mtB b q e n = true ↔ pkF b q (e - q) = wW.getD (permW n) 0 := by
  obtain ⟨w1, w2, w3⟩ := wd_ok n hn
  obtain ⟨v1, v2⟩ := ww_N n hn
  have hv := vN_lt (dgN_lt hl) 6
  have p32 : (32 : Nat) ^ 6 = 1073741824 := by decide
  rw [(ho_pk hl hq h6).2, v1]
  unfold mtB
  simp only [Bool.and_eq_true, decide_eq_true_eq]
  constructor
  · rintro ⟨he, ha⟩
    refine congrArg nI (vN_eq 6 (fun i _ => ?_))
    unfold dgN wdg
    by_cases z : i < lwF n
    · rw [if_pos (by omega), if_pos z, ha i z]
    · rw [if_neg (by omega), if_neg z]
  · intro h
    have h1 := vN_inj (dgN_lt hl) (wdg_lt hn) 6 (nI_eq700 (by omega) (by omega) h)
    have he : e = q + lwF n := by
      rcases Nat.lt_trichotomy (e - q) (lwF n) with z | z | z
      · have h2 := h1 (e - q) (by omega)
        unfold dgN wdg at h2
        rw [if_neg (by omega), if_pos z] at h2
        have := w3 (e - q) z
        omega
      · omega
      · have h2 := h1 (lwF n) (by omega)
        unfold dgN wdg at h2
        rw [if_pos (by omega), if_neg (by omega)] at h2
        obtain ⟨m, a1, a2, a3⟩ := let_N (hl (lwF n) (by omega))
        rw [a1, show nat (nI m) = m from nI_clamp (by omega)] at h2
        omega
    refine ⟨he, fun i hi => ?_⟩
    have h2 := h1 i (by omega)
    unfold dgN wdg at h2
    rw [if_pos (by omega), if_pos hi] at h2
    obtain ⟨m, a1, a2, a3⟩ := let_N (hl i (by omega))
    obtain ⟨c1, c2, c3⟩ := w3 i hi
    rw [a1, show nat (nI m) = m from nI_clamp (by omega)] at h2
    rw [a1, c3]
    exact congrArg nI (by omega)
theorem wdM_of {b : Nat → Int32} {q e : Nat} : ∀ k n, (wdM b q e k n = -1 ∧ ∀ j, n ≤ j → j < n + k → mtB b q e j = false) ∨ ∃ j, n ≤ j ∧ j < n + k ∧ wdM b q e k n = nI j ∧ mtB b q e j = true := by
  intro k
  induction k with
  | zero => intro n; exact Or.inl ⟨rfl, fun j h1 h2 => by omega⟩
  | succ k ih =>
    intro n
    rw [wdM]
    by_cases z : mtB b q e n = true
    · rw [if_pos z]; exact Or.inr ⟨n, by omega, by omega, rfl, z⟩
    · rw [if_neg z]
      rcases ih (n + 1) with ⟨h1, h2⟩ | ⟨j, h1, h2, h3, h4⟩
      · refine Or.inl ⟨h1, fun j a1 a2 => ?_⟩
        by_cases y : j = n
        · rw [y]; exact Bool.eq_false_iff.mpr z
        · exact h2 j (by omega) (by omega)
      · exact Or.inr ⟨j, by omega, by omega, h3, h4⟩
theorem wdK_no {x : Int32} : ∀ k i, (∀ j, i ≤ j → j < i + k → ¬ wW.getD j 0 = x) → wdK x k i = -4 := by
  intro k
  induction k with
  | zero => intro i _; rfl
  | succ k ih =>
    intro i h
    rw [wdK, if_neg (h i (by omega) (by omega))]
    exact ih (i + 1) (fun j a1 a2 => h j (by omega) (by omega))
def sgT (j : Nat) : Int32 := ([59, 40, 41, 60, 256, 61, 257, 258, 62, 43, 45, 42, 47] : List Int32).getD j 0
def numR (vl v : Int32) : Prop := ∃ x y, v = nI x ∧ vl = nI y ∧ x ≤ 1000000 ∧ y ≤ 1000000 ∧ (x = y ∨ (99999 < x ∧ 99999 < y))
/-- kind and value there, sort and value here -/
def kR (kd vl so v : Int32) : Prop := (kd = -1 ∧ so = 4) ∨ (kd = -2 ∧ so = 5) ∨ (kd = -3 ∧ so = 2 ∧ numR vl v) ∨ (kd = -4 ∧ so = 1 ∧ v = vl) ∨ (∃ w, w < 21 ∧ kd = nI (permW w) ∧ so = 0 ∧ v = nI w) ∨ (∃ j, j < 13 ∧ kd = nI (30 + j) ∧ so = 3 ∧ v = sgT j)
theorem word_rel {b : Nat → Int32} {q e : Nat} (hl : ∀ k, q + k < e → letB (b (q + k)) = true) (hq : q < e) : 
    (¬ wdM b q e 21 0 = -1 → kR (if 6 < e - q then -2 else wdK (pkF b q (e - q)) 21 0) (pkF b q (e - q)) 0 (wdM b q e 21 0)) ∧
    (wdM b q e 21 0 = -1 → 6 < e - q → kR (if 6 < e - q then -2 else wdK (pkF b q (e - q)) 21 0) (pkF b q (e - q)) 5 (-1)) ∧
    (wdM b q e 21 0 = -1 → ¬ 6 < e - q → kR (if 6 < e - q then -2 else wdK (pkF b q (e - q)) 21 0) (pkF b q (e - q)) 1 (hoF b q e 6)) := by
  refine ⟨fun h => ?_, fun _ h => ?_, fun h h6 => ?_⟩
  · rcases wdM_of (b := b) (q := q) (e := e) 21 0 with ⟨h1, -⟩ | ⟨j, -, h2, h3, h4⟩
    · exact absurd h1 h
    · have hj : j < 21 := by omega
      have h6 : ¬ 6 < e - q := by
        have := (wd_ok j hj).2.1
        unfold mtB at h4
        simp only [Bool.and_eq_true, decide_eq_true_eq] at h4
        omega
      rw [if_neg h6, (mt_iff hl (by omega) (by omega) hj).mp h4, wdK_w j hj, h3]
      exact Or.inr (Or.inr (Or.inr (Or.inr (Or.inl ⟨j, hj, rfl, rfl, rfl⟩))))
  · rw [if_pos h]
    exact Or.inr (Or.inl ⟨rfl, rfl⟩)
  · rw [if_neg h6]
    rcases wdM_of (b := b) (q := q) (e := e) 21 0 with ⟨-, h2⟩ | ⟨j, -, h2, h3, h4⟩
    · have : wdK (pkF b q (e - q)) 21 0 = -4 := by
        refine wdK_no 21 0 (fun j _ hj z => ?_)
        obtain ⟨i1, i2⟩ := inv_W j (by omega)
        have := h2 (invW j) (by omega) (by omega)
        rw [(mt_iff hl (by omega) (by omega) i1).mpr (by rw [i2]; exact z.symm)] at this
        cases this
      rw [this]
      exact Or.inr (Or.inr (Or.inr (Or.inl ⟨rfl, rfl, (ho_pk hl (by omega) (by omega)).1⟩)))
    · rw [h3] at h
      exact absurd h (nI_m1 (by omega))
theorem nu_rel {b : Nat → Int32} {q e : Nat} (hl : ∀ k, q + k < e → digB (b (q + k)) = true) : ∀ k, q + k ≤ e → numR (nuF b q k) (nuM b q k) := by
  intro k
  induction k with
  | zero => intro _; exact ⟨0, 0, rfl, rfl, by omega, by omega, Or.inl rfl⟩
  | succ k ih =>
    intro hk
    obtain ⟨x, y, h1, h2, h3, h4, h5⟩ := ih (by omega)
    obtain ⟨m, a1, a2, a3⟩ := dig_N (hl k (by omega))
    have hc : nuF b q (k + 1) = nI (if y * 10 + m - 48 < 1000000 then y * 10 + m - 48 else 1000000) := by
      rw [nuF, h2, a1, show nI y * 10 = nI (y * 10) from pk_mul y 10, nI_add, show (48 : Int32) = nI 48 by decide, nI_subI (by omega)]
      unfold cMin
      by_cases z : y * 10 + m - 48 < 1000000
      · rw [if_pos z, if_pos (show nI (y * 10 + m - 48) < (1000000 : Int32) from nI_lt (b := 1000000) z (by omega))]
      · rw [if_neg z, if_neg (show ¬ nI (y * 10 + m - 48) < (1000000 : Int32) from nI_nlt (b := 1000000) (by omega) (by omega))]; rfl
    have hm : nuM b q (k + 1) = nI (if 99999 < x then x else 10 * x + m - 48) := by
      rw [nuM, h1, a1]
      by_cases z : 99999 < x
      · rw [if_pos z, if_pos (show (99999 : Int32) < nI x from nI_lt (a := 99999) z (by omega))]
      · rw [if_neg z, if_neg (show ¬ (99999 : Int32) < nI x from nI_nlt (a := 99999) (by omega) (by omega)), show 10 * nI x = nI (10 * x) from pk_mul 10 x, nI_add, show (48 : Int32) = nI 48 by decide, nI_subI (by omega)]
    refine ⟨_, _, hm, hc, ?_⟩
    split <;> split <;> omega
theorem sg_rel (c d : Int32) : (sgtM c d = if twoB (sgK c d) = true then 2 else 1) ∧ ((ssB c = true ∧ ∃ j, j < 13 ∧ sgK c d = nI (30 + j) ∧ sgvM c d = sgT j) ∨ (ssB c = false ∧ sgK c d = -2)) := by
  by_cases h1 : c = 59
  · subst h1; exact ⟨by simp [sgtM, sgK, twoB], Or.inl ⟨by decide, 0, by omega, by simp [sgK]; rfl, by simp [sgvM]; rfl⟩⟩
  by_cases h2 : c = 40
  · subst h2; exact ⟨by simp [sgtM, sgK, twoB], Or.inl ⟨by decide, 1, by omega, by simp [sgK]; rfl, by simp [sgvM]; rfl⟩⟩
  by_cases h3 : c = 41
  · subst h3; exact ⟨by simp [sgtM, sgK, twoB], Or.inl ⟨by decide, 2, by omega, by simp [sgK]; rfl, by simp [sgvM]; rfl⟩⟩
  by_cases h4 : c = 60
  · subst h4
    by_cases g1 : d = 61
    · subst g1; exact ⟨by decide, Or.inl ⟨by decide, 4, by decide⟩⟩
    by_cases g2 : d = 62
    · subst g2; exact ⟨by decide, Or.inl ⟨by decide, 6, by decide⟩⟩
    exact ⟨by simp [sgtM, sgK, twoB, g1, g2], Or.inl ⟨by decide, 3, by omega, by simp [sgK, g1, g2]; rfl, by simp [sgvM, g1, g2]; rfl⟩⟩
  by_cases h5 : c = 61
  · subst h5; exact ⟨by simp [sgtM, sgK, twoB], Or.inl ⟨by decide, 5, by omega, by simp [sgK]; rfl, by simp [sgvM]; rfl⟩⟩
  by_cases h6 : c = 62
  · subst h6
    by_cases g1 : d = 61
    · subst g1; exact ⟨by decide, Or.inl ⟨by decide, 7, by decide⟩⟩
    exact ⟨by simp [sgtM, sgK, twoB, g1], Or.inl ⟨by decide, 8, by omega, by simp [sgK, g1]; rfl, by simp [sgvM, g1]; rfl⟩⟩
  by_cases h7 : c = 43
  · subst h7; exact ⟨by simp [sgtM, sgK, twoB], Or.inl ⟨by decide, 9, by omega, by simp [sgK]; rfl, by simp [sgvM]; rfl⟩⟩
  by_cases h8 : c = 45
  · subst h8; exact ⟨by simp [sgtM, sgK, twoB], Or.inl ⟨by decide, 10, by omega, by simp [sgK]; rfl, by simp [sgvM]; rfl⟩⟩
  by_cases h9 : c = 42
  · subst h9; exact ⟨by simp [sgtM, sgK, twoB], Or.inl ⟨by decide, 11, by omega, by simp [sgK]; rfl, by simp [sgvM]; rfl⟩⟩
  by_cases ha : c = 47
  · subst ha; exact ⟨by simp [sgtM, sgK, twoB], Or.inl ⟨by decide, 12, by omega, by simp [sgK]; rfl, by simp [sgvM]; rfl⟩⟩
  exact ⟨by simp [sgtM, sgK, twoB, h1, h2, h3, h4, h5, h6, h7, h8, h9, ha], Or.inr ⟨by simp [ssB, h1, h2, h3, h4, h5, h6, h7, h8, h9, ha], by simp [sgK, h1, h2, h3, h4, h5, h6, h7, h8, h9, ha]⟩⟩
theorem spF_all {t : Int32 → Bool} {b : Nat → Int32} : ∀ f p k, p ≤ k → k < spF t b f p → t (b k) = true := by
  intro f
  induction f with
  | zero => intro p k h1 h2; simp [spF] at h2; omega
  | succ f ih =>
    intro p k h1 h2
    unfold spF at h2
    by_cases z : t (b p) = true
    · rw [if_pos z] at h2
      by_cases y : k = p
      · rw [y]; exact z
      · exact ih (p + 1) k (by omega) h2
    · rw [if_neg z] at h2; omega
theorem spF_1 {t : Int32 → Bool} {b : Nat → Int32} {f p : Nat} (hf : 0 < f) (h : t (b p) = true) : p < spF t b f p := by
  obtain ⟨g, rfl⟩ : ∃ g, f = g + 1 := ⟨f - 1, by omega⟩
  unfold spF
  rw [if_pos h]
  have := (spF_ge t b g (p + 1)).1
  omega
theorem tk_rel {b : Nat → Int32} {n p : Nat} (v0 vl : Int32) : (tkQ b n p v0).1 = (stepK b n p vl).1 ∧ (tkQ b n p v0).2.1 = (stepK b n p vl).2.2.1 ∧ kR (stepK b n p vl).2.1 (stepK b n p vl).2.2.2 (tkQ b n p v0).2.2.1 (tkQ b n p v0).2.2.2 := by
  unfold tkQ stepK
  by_cases h1 : n ≤ p
  · rw [if_pos h1, if_pos h1]; exact ⟨rfl, rfl, Or.inl ⟨rfl, rfl⟩⟩
  rw [if_neg h1, if_neg h1]
  by_cases h2 : letB (b p) = true
  · rw [if_pos h2, if_pos h2]
    obtain ⟨e, he⟩ : ∃ e, e = spF letB b (n - p) p := ⟨_, rfl⟩
    rw [← he]
    have hl : ∀ k, p + k < e → letB (b (p + k)) = true := fun k hk => spF_all (n - p) p (p + k) (by omega) (by omega)
    have hpe : p < e := by rw [he]; exact spF_1 (by omega) h2
    obtain ⟨r1, r2, r3⟩ := word_rel hl hpe
    by_cases h3 : wdM b p e 21 0 = -1
    · rw [if_neg (fun z => z h3)]
      by_cases h4 : 6 < e - p
      · rw [if_pos h4]; exact ⟨rfl, rfl, r2 h3 h4⟩
      · rw [if_neg h4]; exact ⟨rfl, rfl, r3 h3 h4⟩
    · rw [if_pos h3]; exact ⟨rfl, rfl, r1 h3⟩
  rw [if_neg h2, if_neg h2]
  by_cases h3 : digB (b p) = true
  · rw [if_pos h3, if_pos h3]
    refine ⟨rfl, rfl, Or.inr (Or.inr (Or.inl ⟨rfl, rfl, ?_⟩))⟩
    have := (spF_ge digB b (n - p) p).1
    exact nu_rel (e := spF digB b (n - p) p) (fun k hk => spF_all (n - p) p (p + k) (by omega) hk) _ (by omega)
  rw [if_neg h3, if_neg h3]
  obtain ⟨s1, s2⟩ := sg_rel (b p) (sgA b n (p + 1))
  refine ⟨by rw [s1], rfl, ?_⟩
  rcases s2 with ⟨g1, j, g2, g3, g4⟩ | ⟨g1, g2⟩
  · exact Or.inr (Or.inr (Or.inr (Or.inr (Or.inr ⟨j, g2, g3, by show (if ssB (b p) = true then (3 : Int32) else 5) = 3; rw [g1]; rfl, g4⟩))))
  · exact Or.inr (Or.inl ⟨g2, by show (if ssB (b p) = true then (3 : Int32) else 5) = 5; rw [g1]; rfl⟩)
def kRel (s : St) (q : Tk) : Prop := s.1 23 = nI q.1 ∧ s.1 24 = nI q.2.2.1 ∧ kR q.2.1 q.2.2.2 (s.1 25) (s.1 26)
set_option maxRecDepth 100000 in
set_option maxHeartbeats 1000000 in
theorem tok_M {d n0 a : Nat} {κ : Kd} {h0 : Hp} (hd : 7 ≤ d) {s : St} {n : Nat} {q : Tk} (e22 : s.1 22 = nI n) (e23 : s.1 23 = nI q.1) (hn : n ≤ 700) (hq : q.1 ≤ n) (hbb : ∀ k, k < n → ¬ s.2.1 1 k = -1 ∧ s.2.1 1 k < 256) : MV MX12_token (d, 0, 0, n0, κ) a h0 s 0 [some (.ref a), none] [] (fun v s' => v = none ∧ frK2 s s' ∧ kRel s' (tokN (s.2.1 1) n q)) := by
  refine MV.post (fun v s' h => ?_) (token_M hd e22 e23 hn hq hbb)
  obtain ⟨h1, h2, h3, h4, h5, h6⟩ := h
  obtain ⟨r1, r2, r3⟩ := tk_rel (b := s.2.1 1) (n := n) (p := spF blkB (s.2.1 1) (n - q.1) q.1) (s.1 26) q.2.2.2
  unfold tkM at h3 h4 h5 h6
  rw [r1] at h3
  rw [r2] at h4
  refine ⟨h1, h2, h3, h4, ?_⟩
  rw [h5, h6]
  exact r3
/-- what the tests of a TOKEN say -/
theorem perm_ne : ∀ v, v < 21 → ∀ w, w < 21 → ((nI v = nI w) ↔ (nI (permW v) = nI (permW w))) := by decide +kernel
theorem sgT_ne : ∀ v, v < 13 → ∀ w, w < 13 → ((sgT v = sgT w) ↔ (nI (30 + v) = nI (30 + w))) := by decide +kernel
theorem perm_x : ∀ w, w < 21 → ¬ nI (permW w) = -1 ∧ ¬ nI (permW w) = -2 ∧ ¬ nI (permW w) = -3 ∧ ¬ nI (permW w) = -4 ∧ ∀ j, j < 13 → ¬ nI (permW w) = nI (30 + j) := by decide +kernel
theorem sg_x : ∀ j, j < 13 → ¬ nI (30 + j) = -1 ∧ ¬ nI (30 + j) = -2 ∧ ¬ nI (30 + j) = -3 ∧ ¬ nI (30 + j) = -4 := by decide +kernel
theorem kR_end {kd vl so v : Int32} (h : kR kd vl so v) : so = 4 ↔ kd = -1 := by
  rcases h with ⟨h1, h2⟩ | ⟨h1, h2⟩ | ⟨h1, h2, -⟩ | ⟨h1, h2, -⟩ | ⟨w, hw, h1, h2, -⟩ | ⟨j, hj, h1, h2, -⟩
  · rw [h1, h2]; decide
  · rw [h1, h2]; decide
  · rw [h1, h2]; decide
  · rw [h1, h2]; decide
  · rw [h1, h2]; exact ⟨fun z => absurd z (by decide), fun z => absurd z (perm_x w hw).1⟩
  · rw [h1, h2]; exact ⟨fun z => absurd z (by decide), fun z => absurd z (sg_x j hj).1⟩
theorem kR_num {kd vl so v : Int32} (h : kR kd vl so v) : so = 2 ↔ kd = -3 := by
  rcases h with ⟨h1, h2⟩ | ⟨h1, h2⟩ | ⟨h1, h2, -⟩ | ⟨h1, h2, -⟩ | ⟨w, hw, h1, h2, -⟩ | ⟨j, hj, h1, h2, -⟩
  · rw [h1, h2]; decide
  · rw [h1, h2]; decide
  · rw [h1, h2]; decide
  · rw [h1, h2]; decide
  · rw [h1, h2]; exact ⟨fun z => absurd z (by decide), fun z => absurd z (perm_x w hw).2.2.1⟩
  · rw [h1, h2]; exact ⟨fun z => absurd z (by decide), fun z => absurd z (sg_x j hj).2.2.1⟩
theorem kR_numV {kd vl so v : Int32} (h : kR kd vl so v) (hk : kd = -3) : numR vl v := by
  rcases h with ⟨h1, h2⟩ | ⟨h1, h2⟩ | ⟨h1, h2, h3⟩ | ⟨h1, h2, -⟩ | ⟨w, hw, h1, h2, -⟩ | ⟨j, hj, h1, h2, -⟩
  · rw [h1] at hk; exact absurd hk (by decide)
  · rw [h1] at hk; exact absurd hk (by decide)
  · exact h3
  · rw [h1] at hk; exact absurd hk (by decide)
  · rw [h1] at hk; exact absurd hk (perm_x w hw).2.2.1
  · rw [h1] at hk; exact absurd hk (sg_x j hj).2.2.1
theorem kR_name {kd vl so v : Int32} (h : kR kd vl so v) : (so = 1 ↔ kd = -4) ∧ (kd = -4 → v = vl) := by
  rcases h with ⟨h1, h2⟩ | ⟨h1, h2⟩ | ⟨h1, h2, -⟩ | ⟨h1, h2, h3⟩ | ⟨w, hw, h1, h2, -⟩ | ⟨j, hj, h1, h2, -⟩
  · rw [h1, h2]; exact ⟨by decide, fun z => absurd z (by decide)⟩
  · rw [h1, h2]; exact ⟨by decide, fun z => absurd z (by decide)⟩
  · rw [h1, h2]; exact ⟨by decide, fun z => absurd z (by decide)⟩
  · rw [h1, h2]; exact ⟨by decide, fun _ => h3⟩
  · rw [h1, h2]; exact ⟨⟨fun z => absurd z (by decide), fun z => absurd z (perm_x w hw).2.2.2.1⟩, fun z => absurd z (perm_x w hw).2.2.2.1⟩
  · rw [h1, h2]; exact ⟨⟨fun z => absurd z (by decide), fun z => absurd z (sg_x j hj).2.2.2⟩, fun z => absurd z (sg_x j hj).2.2.2⟩
theorem kR_word {kd vl so v : Int32} (h : kR kd vl so v) {w : Nat} (hw : w < 21) : (so = 0 ∧ v = nI w) ↔ kd = nI (permW w) := by
  obtain ⟨p1, p2, p3, p4, p5⟩ := perm_x w hw
  rcases h with ⟨h1, h2⟩ | ⟨h1, h2⟩ | ⟨h1, h2, -⟩ | ⟨h1, h2, -⟩ | ⟨u, hu, h1, h2, h3⟩ | ⟨j, hj, h1, h2, -⟩
  · rw [h1, h2]; exact ⟨fun z => absurd z.1 (by decide), fun z => absurd z.symm p1⟩
  · rw [h1, h2]; exact ⟨fun z => absurd z.1 (by decide), fun z => absurd z.symm p2⟩
  · rw [h1, h2]; exact ⟨fun z => absurd z.1 (by decide), fun z => absurd z.symm p3⟩
  · rw [h1, h2]; exact ⟨fun z => absurd z.1 (by decide), fun z => absurd z.symm p4⟩
  · rw [h1, h2, h3]; exact ⟨fun z => (perm_ne u hu w hw).mp z.2, fun z => ⟨rfl, (perm_ne u hu w hw).mpr z⟩⟩
  · rw [h1, h2]; exact ⟨fun z => absurd z.1 (by decide), fun z => absurd z.symm (p5 j hj)⟩
theorem kR_sign {kd vl so v : Int32} (h : kR kd vl so v) {w : Nat} (hw : w < 13) : (so = 3 ∧ v = sgT w) ↔ kd = nI (30 + w) := by
  obtain ⟨p1, p2, p3, p4⟩ := sg_x w hw
  rcases h with ⟨h1, h2⟩ | ⟨h1, h2⟩ | ⟨h1, h2, -⟩ | ⟨h1, h2, -⟩ | ⟨u, hu, h1, h2, h3⟩ | ⟨j, hj, h1, h2, h3⟩
  · rw [h1, h2]; exact ⟨fun z => absurd z.1 (by decide), fun z => absurd z.symm p1⟩
  · rw [h1, h2]; exact ⟨fun z => absurd z.1 (by decide), fun z => absurd z.symm p2⟩
  · rw [h1, h2]; exact ⟨fun z => absurd z.1 (by decide), fun z => absurd z.symm p3⟩
  · rw [h1, h2]; exact ⟨fun z => absurd z.1 (by decide), fun z => absurd z.symm p4⟩
  · rw [h1, h2]; exact ⟨fun z => absurd z.1 (by decide), fun z => absurd z ((perm_x u hu).2.2.2.2 w hw)⟩
  · rw [h1, h2, h3]; exact ⟨fun z => (sgT_ne j hj w hw).mp z.2, fun z => ⟨rfl, (sgT_ne j hj w hw).mpr z⟩⟩
