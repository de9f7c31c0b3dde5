/-! The model: rests, calm, cover, last -/
def spnF (x y : Int32) (i j : Nat) : Int32 := if i = 0 then (if j = 0 then x / 2 else x + 2) else (if j = 0 then x + y else x)
def restB (x y : Int32) (i : Nat) : Bool := decide (¬ spnF x y (i / 2) (i % 2) < spnF x y (1 - i / 2) (i % 2)) && decide (¬ spnF y x (i % 2) (i / 2) < spnF y x (1 - i % 2) (i / 2))
def restF (b : Nat → Bool) (k : Int32) : Nat → Nat → Nat → Int32
  | 0, _, n => if k = -1 then nI n else -2
  | j + 1, i, n => if b i = true then (if nI n = k then nI (10 * (i / 2) + i % 2) else restF b k j (i + 1) (n + 1)) else restF b k j (i + 1) n
def aRests (T : Tx) (c : St) (x y : Int32) : Int32 := if areTwoB (T.1.1 0) x y = true then restF (restB (cJunesLeft c (nat x)) (cJunesLeft c (nat y))) (-1) 4 0 0 else -1
def aRest (T : Tx) (c : St) (x y k : Int32) : Int32 := if areTwoB (T.1.1 0) x y = true ∧ ¬ k < 0 then restF (restB (cJunesLeft c (nat x)) (cJunesLeft c (nat y))) k 4 0 0 else -1
def fewB (x y : Int32) : Bool := decide (y < 0) || decide (bcI x < bcI y)
def bestF (p : Nat → Bool) : Nat → Int32
  | 0 => -2
  | k + 1 => if fewB (nI k) (bestF p k) = true ∧ p k = true then nI k else bestF p k
theorem bestF_in (p : Nat → Bool) : ∀ k, bestF p k = -2 ∨ ∃ i, i < k ∧ bestF p k = nI i := by
  intro k
  induction k with
  | zero => exact Or.inl rfl
  | succ k ih =>
    unfold bestF
    split
    · exact Or.inr ⟨k, by omega, rfl⟩
    · rcases ih with h | ⟨i, h1, h2⟩
      · exact Or.inl h
      · exact Or.inr ⟨i, by omega, h2⟩
theorem bestF_congr {p q : Nat → Bool} : ∀ k, (∀ i, i < k → p i = q i) → bestF p k = bestF q k := by
  intro k
  induction k with
  | zero => intro _; rfl
  | succ k ih => intro h; unfold bestF; rw [h k (by omega), ih (fun i hi => h i (by omega))]
def allSF (T : Tx) (s : Int32) : Nat → Nat → Bool
  | 0, _ => true
  | j + 1, i => if seesB s (T.1.2.1 4 i) i = true then allSF T s j (i + 1) else false
def covB (T : Tx) (c : St) (k : Nat) : Bool := decide (nI k &&& outM (cLeft c) (nat (T.1.1 0)) = 0) && allSF T (nI k) (nat (T.1.1 0)) 0
def aCover (T : Tx) (c : St) : Int32 := bestF (covB T c) (2 ^ nat (T.1.1 0))
def dasF (T : Tx) (c : St) (s : Int32) : Nat → Nat → Bool
  | 0, _ => true
  | j + 1, i => if (s >>> (nI i &&& 31)) &&& 1 = 1 ∧ cLeft c i = 0 then false else if seesB s (T.1.2.1 4 i) i = true then dasF T c s j (i + 1) else false
def sumSet (c : St) (s : Int32) : Nat → Int32 := sumI (fun p => if (s >>> (nI p &&& 31)) &&& 1 = 0 then 0 else cLeft c p)
def lastB (T : Tx) (c : St) (n : Int32) (k : Nat) : Bool := decide (¬ sumSet c (nI k) (nat (T.1.1 0)) < n)
def aLast (T : Tx) (c : St) (n : Int32) : Int32 := if ¬ n < 0 ∧ ¬ 360 < n then bestF (lastB T c n) (2 ^ nat (T.1.1 0)) else -1
theorem two_n : ∀ n, n ≤ 6 → (1 : Int32) <<< (nI n &&& 31) = nI (2 ^ n) ∧ 2 ^ n ≤ 64 := by
  intro n hn
  have : n = 0 ∨ n = 1 ∨ n = 2 ∨ n = 3 ∨ n = 4 ∨ n = 5 ∨ n = 6 := by omega
  rcases this with rfl | rfl | rfl | rfl | rfl | rfl | rfl <;> decide +kernel
theorem bit64 {k i : Nat} (hk : k < 64) (hi : i < 6) : (nI k >>> (nI i &&& 31)) &&& 1 = 0 ↔ k.testBit i = false := by
  rw [shr_nI (by omega) (by omega), show (1 : Int32) = nI (2 ^ 1 - 1) by decide, nx_and, Nat.and_two_pow_sub_one_eq_mod, show (0 : Int32) = nI 0 by decide, nI_eq (by omega) (by omega), Nat.testBit_eq_decide_div_mod_eq]
  simp
theorem das_and {T : Tx} {c : St} {k : Nat} (hk : k < 64) : ∀ (j i : Nat), i + j ≤ 6 → (dasF T c (nI k) j i = true ↔ (∀ q, i ≤ q → q < i + j → ¬ (k.testBit q = true ∧ cLeft c q = 0)) ∧ allSF T (nI k) j i = true) := by
  intro j
  induction j with
  | zero => intro i hi; exact ⟨fun _ => ⟨fun q a b => by omega, rfl⟩, fun _ => rfl⟩
  | succ j ih =>
    intro i hi
    unfold dasF allSF
    have hb : (nI k >>> (nI i &&& 31)) &&& 1 = 1 ↔ k.testBit i = true := by
      rw [and1_iff, bit64 hk (by omega)]
      simp
    by_cases q1 : k.testBit i = true ∧ cLeft c i = 0
    · rw [if_pos ⟨hb.mpr q1.1, q1.2⟩]
      exact ⟨fun z => absurd z (by decide), fun z => absurd q1 (z.1 i (Nat.le_refl _) (by omega))⟩
    · rw [if_neg (fun z => q1 ⟨hb.mp z.1, z.2⟩)]
      have he : (∀ q, i ≤ q → q < i + (j + 1) → ¬ (k.testBit q = true ∧ cLeft c q = 0)) ↔ (∀ q, i + 1 ≤ q → q < i + 1 + j → ¬ (k.testBit q = true ∧ cLeft c q = 0)) := by
        constructor
        · intro z q a b; exact z q (by omega) (by omega)
        · intro z q a b
          by_cases e : q = i
          · rw [e]; exact q1
          · exact z q (by omega) (by omega)
      rw [he]
      split
      · exact ih (i + 1) (by omega)
      · exact ⟨fun z => absurd z (by decide), fun z => absurd z.2 (by decide)⟩
theorem das_cov {T : Tx} {c : St} {k : Nat} (hk : k < 64) (hn : nat (T.1.1 0) ≤ 6) : dasF T c (nI k) (nat (T.1.1 0)) 0 = covB T c k := by
  rw [Bool.eq_iff_iff, das_and hk _ 0 (by omega)]
  unfold covB
  rw [Bool.and_eq_true, decide_eq_true_eq]
  refine and_congr ?_ Iff.rfl
  rw [outM_set _ hn, nx_and]
  have e0 : ∀ S, (nI (k &&& S) = 0 ↔ k &&& S = 0) := fun S => by
    have hl : k &&& S ≤ k := Nat.and_le_left
    exact nI_eq (b := 0) (by omega) (by omega)
  rw [e0]
  constructor
  · intro z
    apply Nat.eq_of_testBit_eq
    intro q
    rw [Nat.testBit_and, setN_bit, Nat.zero_testBit]
    by_cases hq : q < nat (T.1.1 0)
    · have := z q (Nat.zero_le _) (by omega)
      by_cases h1 : k.testBit q = true
      · have h2 : ¬ cLeft c q = 0 := fun w => this ⟨h1, w⟩
        simp [h2]
      · simp [h1]
    · simp [hq]
  · rintro z q _ hq ⟨h1, h2⟩
    have := congrArg (fun y => y.testBit q) z
    simp only [Nat.testBit_and, setN_bit, Nat.zero_testBit, h1, Bool.true_and, h2] at this
    simp [show q < nat (T.1.1 0) by omega] at this
set_option maxRecDepth 100000 in
set_option maxHeartbeats 1000000 in
theorem hasOf_M {d n0 a : Nat} {κ : Kd} {h0 : Hp} (hd : 4 ≤ d) {T : Tx} {s c : St} (hqu : qui s) (hR : Rm T s 0 c) {p q i j : Nat} (hp : p < nat (T.1.1 0)) (hq : q < nat (T.1.1 0)) (hp6 : p < 6) (hq6 : q < 6) (hi : i < 2) (hj2 : j < 2) : MV MX12_hasOf (d, 0, 0, n0, κ) a h0 s 0 [some (.ref a), some (.int (nI p)), some (.int (nI q)), some (.int (nI i)), some (.int (nI j)), none] [] (mR s (.int (spnF (cJunesLeft c p) (cJunesLeft c q) i j))) := by
  have hj := hR.1.2.1.1
  refine MV.aload_n dX12_hasOf_0 rfl ?_
  refine MV.iconst (v := nI 0) dX12_hasOf_1 (by decide) ?_
  refine MV.iload_n dX12_hasOf_2 rfl ?_
  refine MV.cV2 yoX12_junesOf ml_X12_359 im_X12_junesOf se_X12_junesOf dX12_hasOf_3 rfl (Nat.le_of_ble_eq_true rfl) (by omega) rfl (Nat.le_of_ble_eq_true rfl) (junesOf_M (n := nat (s.2.1 3 1)) (r := 0) (by omega) (by decide) hp6 hj.1 (by have := hj.2; omega)) (MV.rdK ?_)
  refine MV.eqi (cJunesLeft c p) (hR.2.1.junes hR.1 hR.2.2 hp) ?_
  refine MV.istore dX12_hasOf_6 (by decide) rfl ?_
  refine MV.iload_n dX12_hasOf_8 rfl ?_
  refine MV.if_ne 29 dX12_hasOf_9 (by decide) (fun c9 => ?_) (fun c9 => ?_)
  · skip
    have q9 : ¬ i = 0 := fun z => c9 (by rw [z]; rfl)
    refine MV.iload dX12_hasOf_29 rfl ?_
    refine MV.if_ne 46 dX12_hasOf_31 (by decide) (fun c31 => ?_) (fun c31 => ?_)
    · skip
      have q31 : ¬ j = 0 := fun z => c31 (by rw [z]; rfl)
      refine MV.iload dX12_hasOf_46 rfl ?_
      refine MV.iret dX12_hasOf_48 rfl ?_
      refine ⟨?_, rfl⟩
      first
      | (rw [spnF, if_pos q9, if_pos q14]; done)
      | (rw [spnF, if_pos q9, if_neg q14]; done)
      | (rw [spnF, if_neg q9, if_pos q31]; done)
      | (rw [spnF, if_neg q9, if_neg q31]; done)
    · skip
      have q31 : j = 0 := Nat.eq_zero_of_not_pos fun z => nI_ne0 z (by omega) c31
      refine MV.iload dX12_hasOf_34 rfl ?_
      refine MV.aload_n dX12_hasOf_36 rfl ?_
      refine MV.iconst (v := nI 0) dX12_hasOf_37 (by decide) ?_
      refine MV.iload_n dX12_hasOf_38 rfl ?_
      refine MV.cV2 yoX12_junesOf ml_X12_359 im_X12_junesOf se_X12_junesOf dX12_hasOf_39 rfl (Nat.le_of_ble_eq_true rfl) (by omega) rfl (Nat.le_of_ble_eq_true rfl) (junesOf_M (n := nat (s.2.1 3 1)) (r := 0) (by omega) (by decide) hq6 hj.1 (by have := hj.2; omega)) (MV.rdK ?_)
      refine MV.eqi (cJunesLeft c q) (hR.2.1.junes hR.1 hR.2.2 hq) ?_
      refine MV.iadd dX12_hasOf_42 ?_
      refine MV.goto 48 dX12_hasOf_43 (by decide) ?_
      refine MV.iret dX12_hasOf_48 rfl ?_
      refine ⟨?_, rfl⟩
      first
      | (rw [spnF, if_pos q9, if_pos q14]; done)
      | (rw [spnF, if_pos q9, if_neg q14]; done)
      | (rw [spnF, if_neg q9, if_pos q31]; done)
      | (rw [spnF, if_neg q9, if_neg q31]; done)
  · skip
    have q9 : i = 0 := Nat.eq_zero_of_not_pos fun z => nI_ne0 z (by omega) c9
    refine MV.iload dX12_hasOf_12 rfl ?_
    refine MV.if_ne 24 dX12_hasOf_14 (by decide) (fun c14 => ?_) (fun c14 => ?_)
    · skip
      have q14 : ¬ j = 0 := fun z => c14 (by rw [z]; rfl)
      refine MV.iload dX12_hasOf_24 rfl ?_
      refine MV.iconst (v := 2) dX12_hasOf_26 (by decide) ?_
      refine MV.iadd dX12_hasOf_27 ?_
      refine MV.iret dX12_hasOf_28 rfl ?_
      refine ⟨?_, rfl⟩
      first
      | (rw [spnF, if_pos q9, if_pos q14]; done)
      | (rw [spnF, if_pos q9, if_neg q14]; done)
      | (rw [spnF, if_neg q9, if_pos q31]; done)
      | (rw [spnF, if_neg q9, if_neg q31]; done)
    · skip
      have q14 : j = 0 := Nat.eq_zero_of_not_pos fun z => nI_ne0 z (by omega) c14
      refine MV.iload dX12_hasOf_17 rfl ?_
      refine MV.iconst (v := 2) dX12_hasOf_19 (by decide) ?_
      refine MV.idiv dX12_hasOf_20 (by decide) ?_
      refine MV.goto 28 dX12_hasOf_21 (by decide) ?_
      refine MV.iret dX12_hasOf_28 rfl ?_
      refine ⟨?_, rfl⟩
      first
      | (rw [spnF, if_pos q9, if_pos q14]; done)
      | (rw [spnF, if_pos q9, if_neg q14]; done)
      | (rw [spnF, if_neg q9, if_pos q31]; done)
      | (rw [spnF, if_neg q9, if_neg q31]; done)
theorem d2 : ∀ i, i < 4 → nI i / 2 = nI (i / 2) ∧ nI i - nI i / 2 * 2 = nI (i % 2) ∧ 1 - nI (i / 2) = nI (1 - i / 2) ∧ 1 - nI (i % 2) = nI (1 - i % 2) ∧ 10 * (nI i / 2) + (nI i - nI i / 2 * 2) = nI (10 * (i / 2) + i % 2) := by
  intro i hi
  have : i = 0 ∨ i = 1 ∨ i = 2 ∨ i = 3 := by omega
  rcases this with rfl | rfl | rfl | rfl <;> decide +kernel
set_option maxRecDepth 100000 in
set_option maxHeartbeats 1000000 in
theorem isRest_M {d n0 a : Nat} {κ : Kd} {h0 : Hp} (hd : 5 ≤ d) {T : Tx} {s c : St} (hqu : qui s) (hR : Rm T s 0 c) {p q : Nat} (hp : p < nat (T.1.1 0)) (hq : q < nat (T.1.1 0)) (hp6 : p < 6) (hq6 : q < 6) {i : Nat} (hi : i < 4) : MV MX12_isRest (d, 0, 0, n0, κ) a h0 s 0 [some (.ref a), some (.int (nI p)), some (.int (nI q)), some (.int (nI i)), none, none] [] (mR s (.int (bI (restB (cJunesLeft c p) (cJunesLeft c q) i)))) := by
  refine MV.iload_n dX12_isRest_0 rfl ?_
  refine MV.iconst (v := 2) dX12_isRest_1 (by decide) ?_
  refine MV.idiv dX12_isRest_2 (by decide) ?_
  refine MV.eqi (nI (i / 2)) (d2 i hi).1 ?_
  refine MV.istore dX12_isRest_3 (by decide) rfl ?_
  refine MV.iload_n dX12_isRest_5 rfl ?_
  refine MV.iconst (v := 2) dX12_isRest_6 (by decide) ?_
  refine MV.irem dX12_isRest_7 (by decide) ?_
  refine MV.eqi (nI (i % 2)) (d2 i hi).2.1 ?_
  refine MV.istore dX12_isRest_8 (by decide) rfl ?_
  refine MV.aload_n dX12_isRest_10 rfl ?_
  refine MV.iload_n dX12_isRest_11 rfl ?_
  refine MV.iload_n dX12_isRest_12 rfl ?_
  refine MV.iconst (v := 1) dX12_isRest_13 (by decide) ?_
  refine MV.iload dX12_isRest_14 rfl ?_
  refine MV.isub dX12_isRest_16 ?_
  refine MV.eqi (nI (1 - i / 2)) (d2 i hi).2.2.1 ?_
  refine MV.iload dX12_isRest_17 rfl ?_
  refine MV.cV4 yoX12_hasOf ml_X12_496 im_X12_hasOf se_X12_hasOf dX12_isRest_19 rfl (Nat.le_of_ble_eq_true rfl) (by omega) rfl (Nat.le_of_ble_eq_true rfl) (hasOf_M (p := p) (q := q) (i := 1 - i / 2) (j := i % 2) (by omega) hqu hR hp hq hp6 hq6 (by omega) (by omega)) (MV.rdK ?_)
  refine MV.aload_n dX12_isRest_22 rfl ?_
  refine MV.iload_n dX12_isRest_23 rfl ?_
  refine MV.iload_n dX12_isRest_24 rfl ?_
  refine MV.iload dX12_isRest_25 rfl ?_
  refine MV.iload dX12_isRest_27 rfl ?_
  refine MV.cV4 yoX12_hasOf ml_X12_496 im_X12_hasOf se_X12_hasOf dX12_isRest_29 rfl (Nat.le_of_ble_eq_true rfl) (by omega) rfl (Nat.le_of_ble_eq_true rfl) (hasOf_M (p := p) (q := q) (i := i / 2) (j := i % 2) (by omega) hqu hR hp hq hp6 hq6 (by omega) (by omega)) (MV.rdK ?_)
  refine MV.icmp_gt 64 dX12_isRest_32 (by decide) (fun c32 => ?_) (fun c32 => ?_)
  · skip
    have hA : restB (cJunesLeft c p) (cJunesLeft c q) i = false := by unfold restB; rw [decide_eq_false (fun z => z c32), Bool.false_and]
    refine MV.iconst (v := 0) dX12_isRest_64 (by decide) ?_
    refine MV.zret .boolean dX12_isRest_65 rfl (rfl) ?_
    exact ⟨by rw [hA]; try rfl, rfl⟩
  · skip
    refine MV.aload_n dX12_isRest_35 rfl ?_
    refine MV.iload_n dX12_isRest_36 rfl ?_
    refine MV.iload_n dX12_isRest_37 rfl ?_
    refine MV.iconst (v := 1) dX12_isRest_38 (by decide) ?_
    refine MV.iload dX12_isRest_39 rfl ?_
    refine MV.isub dX12_isRest_41 ?_
    refine MV.eqi (nI (1 - i % 2)) (d2 i hi).2.2.2.1 ?_
    refine MV.iload dX12_isRest_42 rfl ?_
    refine MV.cV4 yoX12_hasOf ml_X12_496 im_X12_hasOf se_X12_hasOf dX12_isRest_44 rfl (Nat.le_of_ble_eq_true rfl) (by omega) rfl (Nat.le_of_ble_eq_true rfl) (hasOf_M (p := q) (q := p) (i := 1 - i % 2) (j := i / 2) (by omega) hqu hR hq hp hq6 hp6 (by omega) (by omega)) (MV.rdK ?_)
    refine MV.aload_n dX12_isRest_47 rfl ?_
    refine MV.iload_n dX12_isRest_48 rfl ?_
    refine MV.iload_n dX12_isRest_49 rfl ?_
    refine MV.iload dX12_isRest_50 rfl ?_
    refine MV.iload dX12_isRest_52 rfl ?_
    refine MV.cV4 yoX12_hasOf ml_X12_496 im_X12_hasOf se_X12_hasOf dX12_isRest_54 rfl (Nat.le_of_ble_eq_true rfl) (by omega) rfl (Nat.le_of_ble_eq_true rfl) (hasOf_M (p := q) (q := p) (i := i % 2) (j := i / 2) (by omega) hqu hR hq hp hq6 hp6 (by omega) (by omega)) (MV.rdK ?_)
    refine MV.icmp_gt 64 dX12_isRest_57 (by decide) (fun c57 => ?_) (fun c57 => ?_)
    · skip
      have hA : restB (cJunesLeft c p) (cJunesLeft c q) i = false := by unfold restB; rw [decide_eq_true c32, decide_eq_false (fun z => z c57)]; rfl
      refine MV.iconst (v := 0) dX12_isRest_64 (by decide) ?_
      refine MV.zret .boolean dX12_isRest_65 rfl (rfl) ?_
      exact ⟨by rw [hA]; try rfl, rfl⟩
    · skip
      have hA : restB (cJunesLeft c p) (cJunesLeft c q) i = true := by unfold restB; rw [decide_eq_true c32, decide_eq_true c57]; rfl
      refine MV.iconst (v := 1) dX12_isRest_60 (by decide) ?_
      refine MV.goto 65 dX12_isRest_61 (by decide) ?_
      refine MV.zret .boolean dX12_isRest_65 rfl (rfl) ?_
      exact ⟨by rw [hA]; try rfl, rfl⟩
set_option maxRecDepth 100000 in
set_option maxHeartbeats 1000000 in
theorem restOf_M {d n0 a : Nat} {κ : Kd} {h0 : Hp} (hd : 6 ≤ d) {T : Tx} {s c : St} (hqu : qui s) (hR : Rm T s 0 c) {p q : Nat} (hp : p < nat (T.1.1 0)) (hq : q < nat (T.1.1 0)) (hp6 : p < 6) (hq6 : q < 6) {k R : Int32} (hR2 : restF (restB (cJunesLeft c p) (cJunesLeft c q)) k 4 0 0 = R) : MV MX12_restOf (d, 0, 0, n0, κ) a h0 s 0 [some (.ref a), some (.int (nI p)), some (.int (nI q)), some (.int (k)), none, none] [] (mR s (.int R)) := by
  have hL : ∀ (j i n : Nat), i + j = 4 → restF (restB (cJunesLeft c p) (cJunesLeft c q)) k j i n = R → MV MX12_restOf (d, 0, 0, n0, κ) a h0 s 6 [some (.ref a), some (.int (nI p)), some (.int (nI q)), some (.int (k)), some (.int (nI n)), some (.int (nI i))] [] (mR s (.int R)) := by
    intro j
    induction j with
    | zero =>
      intro i n hij hv
      refine MV.iload dX12_restOf_6 rfl ?_
      refine MV.iconst (v := nI 4) dX12_restOf_8 (by decide) ?_
      refine MV.icmp_ge 54 dX12_restOf_9 (by decide) (fun _ => ?_) (fun z => absurd (nI_le (a := 4) (by omega) (by omega)) z)
      refine MV.iload_n dX12_restOf_54 rfl ?_
      refine MV.iconst (v := (-1)) dX12_restOf_55 (by decide) ?_
      refine MV.icmp_ne 64 dX12_restOf_56 (by decide) (fun c56 => ?_) (fun c56 => ?_)
      · skip
        refine MV.bipush (v := (-2)) dX12_restOf_64 (by decide) ?_
        refine MV.iret dX12_restOf_66 rfl ?_
        refine ⟨?_, rfl⟩
        rw [← hv, restF]
        first
        | (rw [if_pos c56]; done)
        | (rw [if_neg c56]; done)
      · skip
        refine MV.iload dX12_restOf_59 rfl ?_
        refine MV.goto 66 dX12_restOf_61 (by decide) ?_
        refine MV.iret dX12_restOf_66 rfl ?_
        refine ⟨?_, rfl⟩
        rw [← hv, restF]
        first
        | (rw [if_pos c56]; done)
        | (rw [if_neg c56]; done)
    | succ j ih =>
      intro i n hij hv
      refine MV.iload dX12_restOf_6 rfl ?_
      refine MV.iconst (v := nI 4) dX12_restOf_8 (by decide) ?_
      refine MV.icmp_ge 54 dX12_restOf_9 (by decide) (fun z => absurd z (nI_ge (b := 4) (by omega) (by omega))) (fun _ => ?_)
      refine MV.aload_n dX12_restOf_12 rfl ?_
      refine MV.iload_n dX12_restOf_13 rfl ?_
      refine MV.iload_n dX12_restOf_14 rfl ?_
      refine MV.iload dX12_restOf_15 rfl ?_
      refine MV.cV3 yoX12_isRest ml_X12_500 im_X12_isRest se_X12_isRest dX12_restOf_17 rfl (Nat.le_of_ble_eq_true rfl) (by omega) rfl (Nat.le_of_ble_eq_true rfl) (isRest_M (by omega) hqu hR hp hq hp6 hq6 (i := i) (by omega)) (MV.rdK ?_)
      refine MV.if_ne 26 dX12_restOf_20 (by decide) (fun c20 => ?_) (fun c20 => ?_)
      · skip
        have hb := bI_t c20
        refine MV.iload dX12_restOf_26 rfl ?_
        refine MV.iload_n dX12_restOf_28 rfl ?_
        refine MV.icmp_ne 45 dX12_restOf_29 (by decide) (fun c29 => ?_) (fun c29 => ?_)
        · skip
          skip
          refine MV.iinc (v := 1) dX12_restOf_45 rfl (by decide) (by decide) rfl ?_
          refine MV.iinc (v := 1) dX12_restOf_48 rfl (by decide) (by decide) rfl ?_
          refine MV.goto 6 dX12_restOf_51 (by decide) ?_
          refine MV.weak [some (.ref a), some (.int (nI p)), some (.int (nI q)), some (.int (k)), some (.int (nI (n + 1))), some (.int (nI (i + 1)))] (by simp [leL, sto1, sto2, k2c, nI_1]) ?_
          exact ih (i + 1) (n + 1) (by omega) (by rw [← hv, restF, if_pos hb, if_neg c29])
        · skip
          refine MV.bipush (v := 10) dX12_restOf_32 (by decide) ?_
          refine MV.iload dX12_restOf_34 rfl ?_
          refine MV.iconst (v := 2) dX12_restOf_36 (by decide) ?_
          refine MV.idiv dX12_restOf_37 (by decide) ?_
          refine MV.imul dX12_restOf_38 ?_
          refine MV.iload dX12_restOf_39 rfl ?_
          refine MV.iconst (v := 2) dX12_restOf_41 (by decide) ?_
          refine MV.irem dX12_restOf_42 (by decide) ?_
          refine MV.iadd dX12_restOf_43 ?_
          refine MV.eqi (nI (10 * (i / 2) + i % 2)) (d2 i (by omega)).2.2.2.2 ?_
          refine MV.iret dX12_restOf_44 rfl ?_
          exact ⟨by rw [← hv, restF, if_pos hb, if_pos c29], rfl⟩
      · skip
        have hb := bI_f c20
        refine MV.goto 48 dX12_restOf_23 (by decide) ?_
        refine MV.iinc (v := 1) dX12_restOf_48 rfl (by decide) (by decide) rfl ?_
        refine MV.goto 6 dX12_restOf_51 (by decide) ?_
        refine MV.weak [some (.ref a), some (.int (nI p)), some (.int (nI q)), some (.int (k)), some (.int (nI n)), some (.int (nI (i + 1)))] (by simp [leL, sto1, sto2, k2c, nI_1]) ?_
        exact ih (i + 1) n (by omega) (by rw [← hv, restF, if_neg (by rw [hb]; decide)])
  refine MV.iconst (v := nI 0) dX12_restOf_0 (by decide) ?_
  refine MV.istore dX12_restOf_1 (by decide) rfl ?_
  refine MV.iconst (v := nI 0) dX12_restOf_3 (by decide) ?_
  refine MV.istore dX12_restOf_4 (by decide) rfl ?_
  exact hL 4 0 0 (by omega) hR2
set_option maxRecDepth 100000 in
set_option maxHeartbeats 1000000 in
theorem rests_M {d n0 a : Nat} {κ : Kd} {h0 : Hp} (hd : 7 ≤ d) {T : Tx} {s c : St} (hqu : qui s) (hR : Rm T s 0 c) {x y : Int32} : MV MX12_rests (d, 0, 0, n0, κ) a h0 s 0 [some (.ref a), some (.int (x)), some (.int (y))] [] (fun v s' => v = some (.int (aRests T c x y)) ∧ frX s s') := by
  refine MV.aload_n dX12_rests_0 rfl ?_
  refine MV.iconst (v := 0) dX12_rests_1 (by decide) ?_
  refine MV.putf 0 fl_X12_148 dX12_rests_2 (by decide) rfl (rfl) (rfl) C12_s0 ?_
  refine MV.aload_n dX12_rests_5 rfl ?_
  refine MV.iload_n dX12_rests_6 rfl ?_
  refine MV.iload_n dX12_rests_7 rfl ?_
  refine MV.cV2 yoX12_areTwo ml_X12_456 im_X12_areTwo se_X12_areTwo dX12_rests_8 rfl (Nat.le_of_ble_eq_true rfl) (by omega) rfl (Nat.le_of_ble_eq_true rfl) (areTwo_M (by omega)) (MV.rdK ?_)
  refine MV.if_eq 24 dX12_rests_11 (by decide) (fun c11 => ?_) (fun c11 => ?_)
  · skip
    have hno := noTwo hR.1 c11
    refine MV.iconst (v := (-1)) dX12_rests_24 (by decide) ?_
    refine MV.iret dX12_rests_25 rfl ?_
    first
    | (refine ⟨?_, frX.z⟩
       rw [aRests, if_neg hno]
       done)
    | (refine ⟨?_, frX.z⟩
       rw [aRests, if_pos htwo, hnp, hnq]
       done)
  · skip
    obtain ⟨htwo, p, q, rfl, rfl, hp, hq, hp6, hq6, hnp, hnq, hne⟩ := yesTwo hR.1 c11
    refine MV.aload_n dX12_rests_14 rfl ?_
    refine MV.iload_n dX12_rests_15 rfl ?_
    refine MV.iload_n dX12_rests_16 rfl ?_
    refine MV.iconst (v := (-1)) dX12_rests_17 (by decide) ?_
    refine MV.cV3 yoX12_restOf ml_X12_503 im_X12_restOf se_X12_restOf dX12_rests_18 rfl (Nat.le_of_ble_eq_true rfl) (by omega) rfl (Nat.le_of_ble_eq_true rfl) (restOf_M (T := T) (c := c) (s := mI s 0 0) (d := d - 1) (by omega) hqu hR hp hq hp6 hq6 rfl) (MV.rdK ?_)
    refine MV.goto 25 dX12_rests_21 (by decide) ?_
    refine MV.iret dX12_rests_25 rfl ?_
    first
    | (refine ⟨?_, frX.z⟩
       rw [aRests, if_neg hno]
       done)
    | (refine ⟨?_, frX.z⟩
       rw [aRests, if_pos htwo, hnp, hnq]
       done)
set_option maxRecDepth 100000 in
set_option maxHeartbeats 1000000 in
theorem rest_M {d n0 a : Nat} {κ : Kd} {h0 : Hp} (hd : 7 ≤ d) {T : Tx} {s c : St} (hqu : qui s) (hR : Rm T s 0 c) {x y k : Int32} : MV MX12_rest (d, 0, 0, n0, κ) a h0 s 0 [some (.ref a), some (.int (x)), some (.int (y)), some (.int (k))] [] (fun v s' => v = some (.int (aRest T c x y k)) ∧ frX s s') := by
  refine MV.aload_n dX12_rest_0 rfl ?_
  refine MV.iconst (v := 0) dX12_rest_1 (by decide) ?_
  refine MV.putf 0 fl_X12_148 dX12_rest_2 (by decide) rfl (rfl) (rfl) C12_s0 ?_
  refine MV.aload_n dX12_rest_5 rfl ?_
  refine MV.iload_n dX12_rest_6 rfl ?_
  refine MV.iload_n dX12_rest_7 rfl ?_
  refine MV.cV2 yoX12_areTwo ml_X12_456 im_X12_areTwo se_X12_areTwo dX12_rest_8 rfl (Nat.le_of_ble_eq_true rfl) (by omega) rfl (Nat.le_of_ble_eq_true rfl) (areTwo_M (by omega)) (MV.rdK ?_)
  refine MV.if_eq 28 dX12_rest_11 (by decide) (fun c11 => ?_) (fun c11 => ?_)
  · skip
    have hno := noTwo hR.1 c11
    refine MV.iconst (v := (-1)) dX12_rest_28 (by decide) ?_
    refine MV.iret dX12_rest_29 rfl ?_
    first
    | (refine ⟨?_, frX.z⟩
       rw [aRest, if_neg (fun z => hno z.1)]
       done)
    | (refine ⟨?_, frX.z⟩
       rw [aRest, if_neg (fun z => z.2 c15)]
       done)
    | (refine ⟨?_, frX.z⟩
       rw [aRest, if_pos ⟨htwo, c15⟩, hnp, hnq]
       done)
  · skip
    obtain ⟨htwo, p, q, rfl, rfl, hp, hq, hp6, hq6, hnp, hnq, hne⟩ := yesTwo hR.1 c11
    refine MV.iload_n dX12_rest_14 rfl ?_
    refine MV.if_lt 28 dX12_rest_15 (by decide) (fun c15 => ?_) (fun c15 => ?_)
    · skip
      refine MV.iconst (v := (-1)) dX12_rest_28 (by decide) ?_
      refine MV.iret dX12_rest_29 rfl ?_
      first
      | (refine ⟨?_, frX.z⟩
         rw [aRest, if_neg (fun z => hno z.1)]
         done)
      | (refine ⟨?_, frX.z⟩
         rw [aRest, if_neg (fun z => z.2 c15)]
         done)
      | (refine ⟨?_, frX.z⟩
         rw [aRest, if_pos ⟨htwo, c15⟩, hnp, hnq]
         done)
    · skip
      refine MV.aload_n dX12_rest_18 rfl ?_
      refine MV.iload_n dX12_rest_19 rfl ?_
      refine MV.iload_n dX12_rest_20 rfl ?_
      refine MV.iload_n dX12_rest_21 rfl ?_
      refine MV.cV3 yoX12_restOf ml_X12_503 im_X12_restOf se_X12_restOf dX12_rest_22 rfl (Nat.le_of_ble_eq_true rfl) (by omega) rfl (Nat.le_of_ble_eq_true rfl) (restOf_M (T := T) (c := c) (s := mI s 0 0) (d := d - 1) (by omega) hqu hR hp hq hp6 hq6 rfl) (MV.rdK ?_)
      refine MV.goto 29 dX12_rest_25 (by decide) ?_
      refine MV.iret dX12_rest_29 rfl ?_
      first
      | (refine ⟨?_, frX.z⟩
         rw [aRest, if_neg (fun z => hno z.1)]
         done)
      | (refine ⟨?_, frX.z⟩
         rw [aRest, if_neg (fun z => z.2 c15)]
         done)
      | (refine ⟨?_, frX.z⟩
         rw [aRest, if_pos ⟨htwo, c15⟩, hnp, hnq]
         done)
set_option maxRecDepth 100000 in
set_option maxHeartbeats 1000000 in
theorem doAllSee_M {d n0 a : Nat} {κ : Kd} {h0 : Hp} (hd : 3 ≤ d) {T : Tx} {s c : St} (hqu : qui s) (hR : Rm T s 0 c) {k : Nat} {R : Bool} (hk : k < 64) (hR2 : dasF T c (nI k) (nat (T.1.1 0)) 0 = R) : MV MX12_doAllSee (d, 0, 0, n0, κ) a h0 s 0 [some (.ref a), some (.int (nI k)), none] [] (mR s (.int (bI R))) := by
  obtain ⟨hn0, n6⟩ := lo0 hR
  have hl := hR.1.2.2.2.2.1
  have hL : ∀ (j i : Nat), i + j = nat (T.1.1 0) → dasF T c (nI k) j i = R → MV MX12_doAllSee (d, 0, 0, n0, κ) a h0 s 2 [some (.ref a), some (.int (nI k)), some (.int (nI i))] [] (mR s (.int (bI R))) := by
    intro j
    induction j with
    | zero =>
      intro i hij hv
      refine MV.iload_n dX12_doAllSee_2 rfl ?_
      refine MV.aload_n dX12_doAllSee_3 rfl ?_
      refine MV.getf 3 fl_X12_13 dX12_doAllSee_4 (by decide) rfl ?_
      refine MV.iconst (v := nI 0) dX12_doAllSee_7 (by decide) ?_
      refine MV.ald C12_in3 dX12_doAllSee_8 (rfl) (by omega) (by decide) ?_
      refine MV.icmp_ge 47 dX12_doAllSee_9 (by decide) (fun _ => ?_) (fun z => absurd (by rw [hn0]; exact nI_le (by omega) (by omega)) z)
      refine MV.iconst (v := 1) dX12_doAllSee_47 (by decide) ?_
      refine MV.zret .boolean dX12_doAllSee_48 rfl (rfl) ?_
      exact ⟨by rw [← hv]; rfl, rfl⟩
    | succ j ih =>
      intro i hij hv
      have hi : i < nat (T.1.1 0) := by omega
      have hi6 : i < 6 := by omega
      have e4 := hl.2.2.2 i hi6
      refine MV.iload_n dX12_doAllSee_2 rfl ?_
      refine MV.aload_n dX12_doAllSee_3 rfl ?_
      refine MV.getf 3 fl_X12_13 dX12_doAllSee_4 (by decide) rfl ?_
      refine MV.iconst (v := nI 0) dX12_doAllSee_7 (by decide) ?_
      refine MV.ald C12_in3 dX12_doAllSee_8 (rfl) (by omega) (by decide) ?_
      refine MV.icmp_ge 47 dX12_doAllSee_9 (by decide) (fun z => absurd z (by rw [hn0]; exact nI_ge (by omega) (by omega))) (fun _ => ?_)
      refine MV.iload_n dX12_doAllSee_12 rfl ?_
      refine MV.iload_n dX12_doAllSee_13 rfl ?_
      refine MV.ishr dX12_doAllSee_14 ?_
      refine MV.iconst (v := 1) dX12_doAllSee_15 (by decide) ?_
      refine MV.iand dX12_doAllSee_16 ?_
      refine MV.iconst (v := 1) dX12_doAllSee_17 (by decide) ?_
      refine MV.icmp_ne 30 dX12_doAllSee_18 (by decide) (fun c18 => ?_) (fun c18 => ?_)
      · skip
        have hif : ¬ ((nI k >>> (nI i &&& 31)) &&& 1 = 1 ∧ cLeft c i = 0) := fun z => c18 z.1
        refine MV.aload_n dX12_doAllSee_30 rfl ?_
        refine MV.iload_n dX12_doAllSee_31 rfl ?_
        refine MV.iload_n dX12_doAllSee_32 rfl ?_
        refine MV.cV2 yoX12_doesSee ml_X12_413 im_X12_doesSee se_X12_doesSee dX12_doAllSee_33 rfl (Nat.le_of_ble_eq_true rfl) (by omega) rfl (Nat.le_of_ble_eq_true rfl) (doesSee_M (n := nat (s.2.1 3 4)) (by omega) hl.1.1 (by have := hl.1.2; omega)) (MV.rdK ?_)
        refine MV.if_ne 41 dX12_doAllSee_36 (by decide) (fun c36 => ?_) (fun c36 => ?_)
        · skip
          have hs := bI_t c36
          rw [← e4] at hs
          refine MV.iinc (v := 1) dX12_doAllSee_41 rfl (by decide) (by decide) rfl ?_
          refine MV.goto 2 dX12_doAllSee_44 (by decide) ?_
          refine MV.weak [some (.ref a), some (.int (nI k)), some (.int (nI (i + 1)))] (by simp [leL, sto1, sto2, k2c, nI_1]) ?_
          exact ih (i + 1) (by omega) (by rw [← hv, dasF, if_neg hif, if_pos hs])
        · skip
          have hs := bI_f c36
          rw [← e4] at hs
          have hA : R = false := by rw [← hv, dasF, if_neg hif, hs]; rfl
          refine MV.iconst (v := 0) dX12_doAllSee_39 (by decide) ?_
          refine MV.zret .boolean dX12_doAllSee_40 rfl (rfl) ?_
          exact ⟨by rw [hA]; rfl, rfl⟩
      · skip
        refine MV.aload_n dX12_doAllSee_21 rfl ?_
        refine MV.iconst (v := nI 0) dX12_doAllSee_22 (by decide) ?_
        refine MV.iload_n dX12_doAllSee_23 rfl ?_
        refine MV.cV2 yoX12_leftOf ml_X12_353 im_X12_leftOf se_X12_leftOf dX12_doAllSee_24 rfl (Nat.le_of_ble_eq_true rfl) (by omega) rfl (Nat.le_of_ble_eq_true rfl) (mLeft_M (r := 0) (by omega) (by decide) hi6) (MV.rdK ?_)
        refine MV.if_eq 39 dX12_doAllSee_27 (by decide) (fun c27 => ?_) (fun c27 => ?_)
        · skip
          have hA : R = false := by rw [← hv, dasF, if_pos ⟨c18, (hR.2.1.left hR.1 hi).1.symm.trans c27⟩]
          refine MV.iconst (v := 0) dX12_doAllSee_39 (by decide) ?_
          refine MV.zret .boolean dX12_doAllSee_40 rfl (rfl) ?_
          exact ⟨by rw [hA]; rfl, rfl⟩
        · skip
          have hif : ¬ ((nI k >>> (nI i &&& 31)) &&& 1 = 1 ∧ cLeft c i = 0) := fun z => c27 ((hR.2.1.left hR.1 hi).1.trans z.2)
          refine MV.aload_n dX12_doAllSee_30 rfl ?_
          refine MV.iload_n dX12_doAllSee_31 rfl ?_
          refine MV.iload_n dX12_doAllSee_32 rfl ?_
          refine MV.cV2 yoX12_doesSee ml_X12_413 im_X12_doesSee se_X12_doesSee dX12_doAllSee_33 rfl (Nat.le_of_ble_eq_true rfl) (by omega) rfl (Nat.le_of_ble_eq_true rfl) (doesSee_M (n := nat (s.2.1 3 4)) (by omega) hl.1.1 (by have := hl.1.2; omega)) (MV.rdK ?_)
          refine MV.if_ne 41 dX12_doAllSee_36 (by decide) (fun c36 => ?_) (fun c36 => ?_)
          · skip
            have hs := bI_t c36
            rw [← e4] at hs
            refine MV.iinc (v := 1) dX12_doAllSee_41 rfl (by decide) (by decide) rfl ?_
            refine MV.goto 2 dX12_doAllSee_44 (by decide) ?_
            refine MV.weak [some (.ref a), some (.int (nI k)), some (.int (nI (i + 1)))] (by simp [leL, sto1, sto2, k2c, nI_1]) ?_
            exact ih (i + 1) (by omega) (by rw [← hv, dasF, if_neg hif, if_pos hs])
          · skip
            have hs := bI_f c36
            rw [← e4] at hs
            have hA : R = false := by rw [← hv, dasF, if_neg hif, hs]; rfl
            refine MV.iconst (v := 0) dX12_doAllSee_39 (by decide) ?_
            refine MV.zret .boolean dX12_doAllSee_40 rfl (rfl) ?_
            exact ⟨by rw [hA]; rfl, rfl⟩
  refine MV.iconst (v := nI 0) dX12_doAllSee_0 (by decide) ?_
  refine MV.istore_n dX12_doAllSee_1 (by decide) rfl ?_
  exact hL (nat (T.1.1 0)) 0 (by omega) hR2
set_option maxRecDepth 100000 in
set_option maxHeartbeats 2000000 in
theorem cover_M {d n0 a : Nat} {κ : Kd} {h0 : Hp} (hd : 4 ≤ d) {T : Tx} {s c : St} (hqu : qui s) (hR : Rm T s 0 c) : MV MX12_cover (d, 0, 0, n0, κ) a h0 s 0 [some (.ref a), none, none] [] (fun v s' => v = some (.int (aCover T c)) ∧ frX s s') := by
  obtain ⟨hn0, n6⟩ := lo0 hR
  have h64 := (two_n _ n6).2
  have hL : ∀ (j i : Nat), i + j = 2 ^ nat (T.1.1 0) → MV MX12_cover (d, 0, 0, n0, κ) a h0 (mI s 0 0) 10 [some (.ref a), some (.int (bestF (covB T c) i)), some (.int (nI i))] [] (fun v s' => v = some (.int (aCover T c)) ∧ frX s s') := by
    intro j
    induction j with
    | zero =>
      intro i hij
      refine MV.iload_n dX12_cover_10 rfl ?_
      refine MV.iconst (v := 1) dX12_cover_11 (by decide) ?_
      refine MV.aload_n dX12_cover_12 rfl ?_
      refine MV.getf 3 fl_X12_13 dX12_cover_13 (by decide) rfl ?_
      refine MV.iconst (v := nI 0) dX12_cover_16 (by decide) ?_
      refine MV.ald C12_in3 dX12_cover_17 (rfl) (by omega) (by decide) ?_
      refine MV.ishl dX12_cover_18 ?_
      refine MV.eqi (nI (2 ^ nat (T.1.1 0))) (by rw [show (mI s 0 0).2.1 3 0 = nI (nat (T.1.1 0)) from hn0]; exact (two_n _ n6).1) ?_
      refine MV.icmp_ge 53 dX12_cover_19 (by decide) (fun _ => ?_) (fun z => absurd (nI_le (by omega) (by omega)) z)
      refine MV.iload_n dX12_cover_53 rfl ?_
      refine MV.iret dX12_cover_54 rfl ?_
      exact ⟨by rw [show i = 2 ^ nat (T.1.1 0) by omega]; rfl, frX.z⟩
    | succ j ih =>
      intro i hij
      refine MV.iload_n dX12_cover_10 rfl ?_
      refine MV.iconst (v := 1) dX12_cover_11 (by decide) ?_
      refine MV.aload_n dX12_cover_12 rfl ?_
      refine MV.getf 3 fl_X12_13 dX12_cover_13 (by decide) rfl ?_
      refine MV.iconst (v := nI 0) dX12_cover_16 (by decide) ?_
      refine MV.ald C12_in3 dX12_cover_17 (rfl) (by omega) (by decide) ?_
      refine MV.ishl dX12_cover_18 ?_
      refine MV.eqi (nI (2 ^ nat (T.1.1 0))) (by rw [show (mI s 0 0).2.1 3 0 = nI (nat (T.1.1 0)) from hn0]; exact (two_n _ n6).1) ?_
      refine MV.icmp_ge 53 dX12_cover_19 (by decide) (fun z => absurd z (nI_ge (by omega) (by omega))) (fun _ => ?_)
      refine MV.iload_n dX12_cover_22 rfl ?_
      refine MV.if_lt 37 dX12_cover_23 (by decide) (fun c23 => ?_) (fun c23 => ?_)
      · skip
        have hfew : fewB (nI i) (bestF (covB T c) i) = true := by
          unfold fewB
          rw [decide_eq_true c23, Bool.true_or]
        refine MV.aload_n dX12_cover_37 rfl ?_
        refine MV.iload_n dX12_cover_38 rfl ?_
        refine MV.cV1 yoX12_doAllSee ml_X12_475 im_X12_doAllSee se_X12_doAllSee dX12_cover_39 rfl (Nat.le_of_ble_eq_true rfl) (by omega) rfl (Nat.le_of_ble_eq_true rfl) (doAllSee_M (T := T) (c := c) (s := mI s 0 0) (k := i) (d := d - 1) (by omega) hqu hR (by omega) (das_cov (by omega) n6)) (MV.rdK ?_)
        refine MV.if_eq 47 dX12_cover_42 (by decide) (fun c42 => ?_) (fun c42 => ?_)
        · skip
          have hcv := bI_f c42
          have hst : bestF (covB T c) (i + 1) = bestF (covB T c) i := by rw [bestF, if_neg (fun z => by rw [hcv] at z; cases z.2)]
          refine MV.iinc (v := 1) dX12_cover_47 rfl (by decide) (by decide) rfl ?_
          refine MV.goto 10 dX12_cover_50 (by decide) ?_
          refine MV.weak [some (.ref a), some (.int (bestF (covB T c) (i + 1))), some (.int (nI (i + 1)))] (by simp [leL, sto1, sto2, k2c, nI_1, hst]) ?_
          exact ih (i + 1) (by omega)
        · skip
          have hcv := bI_t c42
          have hst : bestF (covB T c) (i + 1) = nI i := by rw [bestF, if_pos ⟨hfew, hcv⟩]
          refine MV.iload_n dX12_cover_45 rfl ?_
          refine MV.istore_n dX12_cover_46 (by decide) rfl ?_
          refine MV.iinc (v := 1) dX12_cover_47 rfl (by decide) (by decide) rfl ?_
          refine MV.goto 10 dX12_cover_50 (by decide) ?_
          refine MV.weak [some (.ref a), some (.int (bestF (covB T c) (i + 1))), some (.int (nI (i + 1)))] (by simp [leL, sto1, sto2, k2c, nI_1, hst]) ?_
          exact ih (i + 1) (by omega)
      · skip
        obtain ⟨b, hb1, hb2⟩ := (bestF_in (covB T c) i).resolve_left (fun z => c23 (by rw [z]; decide))
        refine MV.iload_n dX12_cover_26 rfl ?_
        refine MV.cS1 yoX12_bitsOf ml_X12_356 st_X12_bitsOf dX12_cover_27 (Nat.le_of_ble_eq_true rfl) (by omega) rfl (Nat.le_of_ble_eq_true rfl) (fun h H => bitsOf_V (by omega)) ?_
        refine MV.eqi (bcI (nI i)) (by rw [(bc64 i (by omega)).1, (bc64 i (by omega)).2]) ?_
        refine MV.iload_n dX12_cover_30 rfl ?_
        refine MV.cS1 yoX12_bitsOf ml_X12_356 st_X12_bitsOf dX12_cover_31 (Nat.le_of_ble_eq_true rfl) (by omega) rfl (Nat.le_of_ble_eq_true rfl) (fun h H => bitsOf_V (by omega)) ?_
        refine MV.eqi (bcI (bestF (covB T c) i)) (by rw [hb2, (bc64 b (by omega)).1, (bc64 b (by omega)).2]) ?_
        refine MV.icmp_ge 47 dX12_cover_34 (by decide) (fun c34 => ?_) (fun c34 => ?_)
        · skip
          have hfew : fewB (nI i) (bestF (covB T c) i) = false := by
            unfold fewB
            rw [decide_eq_false c23, Bool.false_or, decide_eq_false (Int32.not_lt.mpr c34)]
          have hst : bestF (covB T c) (i + 1) = bestF (covB T c) i := by rw [bestF, if_neg (fun z => by rw [hfew] at z; cases z.1)]
          refine MV.iinc (v := 1) dX12_cover_47 rfl (by decide) (by decide) rfl ?_
          refine MV.goto 10 dX12_cover_50 (by decide) ?_
          refine MV.weak [some (.ref a), some (.int (bestF (covB T c) (i + 1))), some (.int (nI (i + 1)))] (by simp [leL, sto1, sto2, k2c, nI_1, hst]) ?_
          exact ih (i + 1) (by omega)
        · skip
          have hfew : fewB (nI i) (bestF (covB T c) i) = true := by
            unfold fewB
            rw [decide_eq_true (Int32.not_le.mp c34), Bool.or_true]
          refine MV.aload_n dX12_cover_37 rfl ?_
          refine MV.iload_n dX12_cover_38 rfl ?_
          refine MV.cV1 yoX12_doAllSee ml_X12_475 im_X12_doAllSee se_X12_doAllSee dX12_cover_39 rfl (Nat.le_of_ble_eq_true rfl) (by omega) rfl (Nat.le_of_ble_eq_true rfl) (doAllSee_M (T := T) (c := c) (s := mI s 0 0) (k := i) (d := d - 1) (by omega) hqu hR (by omega) (das_cov (by omega) n6)) (MV.rdK ?_)
          refine MV.if_eq 47 dX12_cover_42 (by decide) (fun c42 => ?_) (fun c42 => ?_)
          · skip
            have hcv := bI_f c42
            have hst : bestF (covB T c) (i + 1) = bestF (covB T c) i := by rw [bestF, if_neg (fun z => by rw [hcv] at z; cases z.2)]
            refine MV.iinc (v := 1) dX12_cover_47 rfl (by decide) (by decide) rfl ?_
            refine MV.goto 10 dX12_cover_50 (by decide) ?_
            refine MV.weak [some (.ref a), some (.int (bestF (covB T c) (i + 1))), some (.int (nI (i + 1)))] (by simp [leL, sto1, sto2, k2c, nI_1, hst]) ?_
            exact ih (i + 1) (by omega)
          · skip
            have hcv := bI_t c42
            have hst : bestF (covB T c) (i + 1) = nI i := by rw [bestF, if_pos ⟨hfew, hcv⟩]
            refine MV.iload_n dX12_cover_45 rfl ?_
            refine MV.istore_n dX12_cover_46 (by decide) rfl ?_
            refine MV.iinc (v := 1) dX12_cover_47 rfl (by decide) (by decide) rfl ?_
            refine MV.goto 10 dX12_cover_50 (by decide) ?_
            refine MV.weak [some (.ref a), some (.int (bestF (covB T c) (i + 1))), some (.int (nI (i + 1)))] (by simp [leL, sto1, sto2, k2c, nI_1, hst]) ?_
            exact ih (i + 1) (by omega)
  refine MV.aload_n dX12_cover_0 rfl ?_
  refine MV.iconst (v := 0) dX12_cover_1 (by decide) ?_
  refine MV.putf 0 fl_X12_148 dX12_cover_2 (by decide) rfl (rfl) (rfl) C12_s0 ?_
  refine MV.bipush (v := (-2)) dX12_cover_5 (by decide) ?_
  refine MV.istore_n dX12_cover_7 (by decide) rfl ?_
  refine MV.iconst (v := nI 0) dX12_cover_8 (by decide) ?_
  refine MV.istore_n dX12_cover_9 (by decide) rfl ?_
  exact hL (2 ^ nat (T.1.1 0)) 0 (by omega)
