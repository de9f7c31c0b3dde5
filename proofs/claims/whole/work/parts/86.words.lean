/-! The model text: here, isSmall, isDigit, word -/
set_option maxRecDepth 100000 in
set_option maxHeartbeats 1000000 in
theorem here_M {d n0 a : Nat} {κ : Kd} {h0 : Hp} (hd : 1 ≤ d) {s : St} {n p : Nat} (e22 : s.1 22 = nI n) (e23 : s.1 23 = nI p) (hn : n ≤ 700) (hp : p ≤ n) : MV MX12_here (d, 0, 0, n0, κ) a h0 s 0 [some (.ref a)] [] (mR s (.int (sgA (s.2.1 1) n p))) := by
  refine MV.aload_n dX12_here_0 rfl ?_
  refine MV.getf 23 fl_X12_154 dX12_here_1 (by decide) rfl ?_
  refine MV.aload_n dX12_here_4 rfl ?_
  refine MV.getf 22 fl_X12_157 dX12_here_5 (by decide) rfl ?_
  refine MV.icmp_ge 23 dX12_here_8 (by decide) (fun c8 => ?_) (fun c8 => ?_)
  · skip
    have h8 : ¬ p < n := fun z => nI_ge (a := p) (b := n) z (by omega) (by rw [← e22, ← e23]; exact c8)
    refine MV.iconst (v := (-1)) dX12_here_23 (by decide) ?_
    refine MV.iret dX12_here_24 rfl ?_
    first
    | (refine ⟨?_, rfl⟩; unfold sgA; rw [if_neg h8]; done)
    | (refine ⟨?_, rfl⟩; unfold sgA; rw [if_pos h8]; done)
  · skip
    have h8 : p < n := Nat.not_le.mp fun z => c8 (by rw [e22, e23]; exact nI_le z (by omega))
    refine MV.aload_n dX12_here_11 rfl ?_
    refine MV.getf 1 fl_X12_7 dX12_here_12 (by decide) rfl ?_
    refine MV.aload_n dX12_here_15 rfl ?_
    refine MV.getf 23 fl_X12_154 dX12_here_16 (by decide) rfl ?_
    refine MV.ald C12_in1 dX12_here_19 (e23) (by omega) (by decide) ?_
    refine MV.goto 24 dX12_here_20 (by decide) ?_
    refine MV.iret dX12_here_24 rfl ?_
    first
    | (refine ⟨?_, rfl⟩; unfold sgA; rw [if_neg h8]; done)
    | (refine ⟨?_, rfl⟩; unfold sgA; rw [if_pos h8]; done)
def offF (n : Nat) : Nat := ([0, 4, 9, 15, 20, 25, 31, 36, 40, 45, 50, 57, 60, 64, 68, 73, 77, 83, 89, 93, 97, 102] : List Nat).getD n 0
def lwF (n : Nat) : Nat := offF (n + 1) - offF n - 1
theorem off_F : ∀ n, n < 21 → offF (n + 1) = offF n + lwF n + 1 ∧ offF n + lwF n < 102 ∧ chM (offF n + lwF n) = 32 ∧ ∀ i, i < lwF n → ¬ chM (offF n + i) = 32 := by decide +kernel
/-- whether the letters from q up to e are word n -/
def mtB (b : Nat → Int32) (q e n : Nat) : Bool := decide (e = q + lwF n) && decide (∀ i, i < lwF n → b (q + i) = chM (offF n + i))
def wdM (b : Nat → Int32) (q e : Nat) : Nat → Nat → Int32
  | 0, _ => -1
  | k + 1, n => if mtB b q e n = true then nI n else wdM b q e k (n + 1)
theorem mtB_no1 {b : Nat → Int32} {q e n : Nat} (h : ¬ e = q + lwF n) : mtB b q e n = false := by unfold mtB; rw [decide_eq_false h, Bool.false_and]
theorem mtB_no2 {b : Nat → Int32} {q e n i : Nat} (hi : i < lwF n) (h : ¬ b (q + i) = chM (offF n + i)) : mtB b q e n = false := by
  unfold mtB
  have : decide (∀ i, i < lwF n → b (q + i) = chM (offF n + i)) = false := decide_eq_false (fun z => h (z i hi))
  rw [this, Bool.and_false]
theorem nI_eq700 {x y : Nat} (hx : x < 2 ^ 31) (hy : y < 2 ^ 31) (h : nI x = nI y) : x = y := by
  have := congrArg nat h
  rw [show nat (nI x) = x from nI_clamp hx, show nat (nI y) = y from nI_clamp hy] at this
  exact this
set_option maxRecDepth 100000 in
set_option maxHeartbeats 2000000 in
theorem wordIn_M {d n0 a : Nat} {κ : Kd} {h0 : Hp} (hd : 5 ≤ d) {s : St} {q e : Nat} (e24 : s.1 24 = nI q) (e23 : s.1 23 = nI e) (he : e ≤ 700) (hq : q ≤ e) {n : Nat} (hn : n < 21) {P : Option Value → St → Prop} (hyes : mtB (s.2.1 1) q e n = true → P (some (.int (nI n))) s) (hno : mtB (s.2.1 1) q e n = false → MV MX12_word (d, 0, 0, n0, κ) a h0 s 97 [some (.ref a), some (.int (nI n)), some (.int (nI (offF n))), none] [] P) : ∀ (k i : Nat), i + k = lwF n → (∀ j, j < i → s.2.1 1 (q + j) = chM (offF n + j)) → MV MX12_word (d, 0, 0, n0, κ) a h0 s 15 [some (.ref a), some (.int (nI n)), some (.int (nI (offF n))), some (.int (nI i))] [] P := by
  obtain ⟨f1, f2, f3, f4⟩ := off_F n hn
  intro k
  induction k with
  | zero =>
    intro i hik hall
    have hin : i = lwF n := by omega
    have f3i : chM (offF n + i) = 32 := by rw [hin]; exact f3
    refine MV.ldcM rfl dX12_word_15 ?_
    refine MV.iload_n dX12_word_17 rfl ?_
    refine MV.iload_n dX12_word_18 rfl ?_
    refine MV.iadd dX12_word_19 ?_
    refine MV.eqi (nI (offF n + i)) (nI_add _ _) ?_
    refine MV.strAt (by omega) (by omega) ml_X12_198 dX12_word_20 (Nat.le_of_ble_eq_true rfl) ?_
    refine MV.bipush (v := 32) dX12_word_23 (by decide) ?_
    refine MV.icmp_eq 69 dX12_word_25 (by decide) (fun _ => ?_) (fun z => absurd (f3i) z)
    refine MV.ldcM rfl dX12_word_69 ?_
    refine MV.iload_n dX12_word_71 rfl ?_
    refine MV.iload_n dX12_word_72 rfl ?_
    refine MV.iadd dX12_word_73 ?_
    refine MV.eqi (nI (offF n + i)) (nI_add _ _) ?_
    refine MV.strAt (by omega) (by omega) ml_X12_198 dX12_word_74 (Nat.le_of_ble_eq_true rfl) ?_
    refine MV.bipush (v := 32) dX12_word_77 (by decide) ?_
    refine MV.icmp_ne 97 dX12_word_79 (by decide) (fun z => absurd (f3i) z) (fun _ => ?_)
    refine MV.aload_n dX12_word_82 rfl ?_
    refine MV.getf 24 fl_X12_164 dX12_word_83 (by decide) rfl ?_
    refine MV.iload_n dX12_word_86 rfl ?_
    refine MV.iadd dX12_word_87 ?_
    refine MV.aload_n dX12_word_88 rfl ?_
    refine MV.getf 23 fl_X12_154 dX12_word_89 (by decide) rfl ?_
    refine MV.icmp_ne 97 dX12_word_92 (by decide) (fun c92 => ?_) (fun c92 => ?_)
    · skip
      have hne : ¬ e = q + lwF n := fun z => c92 (by rw [e24, e23, z, ← hin]; exact nI_add _ _)
      exact MV.weak [some (.ref a), some (.int (nI n)), some (.int (nI (offF n))), none] (by simp [leL, sto1, sto2, k2c]) (hno (mtB_no1 hne))
    · skip
      have hee : e = q + lwF n := by
        have := nI_eq700 (by omega) (by omega) ((e23.symm.trans c92.symm).trans ((congrArg (· + nI i) e24).trans (nI_add q i)))
        omega
      refine MV.iload_n dX12_word_95 rfl ?_
      refine MV.iret dX12_word_96 rfl ?_
      exact hyes (by unfold mtB; rw [decide_eq_true hee, decide_eq_true (fun j hj => hall j (by omega))]; rfl)
  | succ k ih =>
    intro i hik hall
    refine MV.ldcM rfl dX12_word_15 ?_
    refine MV.iload_n dX12_word_17 rfl ?_
    refine MV.iload_n dX12_word_18 rfl ?_
    refine MV.iadd dX12_word_19 ?_
    refine MV.eqi (nI (offF n + i)) (nI_add _ _) ?_
    refine MV.strAt (by omega) (by omega) ml_X12_198 dX12_word_20 (Nat.le_of_ble_eq_true rfl) ?_
    refine MV.bipush (v := 32) dX12_word_23 (by decide) ?_
    refine MV.icmp_eq 69 dX12_word_25 (by decide) (fun z => absurd z (f4 i (by omega))) (fun _ => ?_)
    refine MV.aload_n dX12_word_28 rfl ?_
    refine MV.getf 24 fl_X12_164 dX12_word_29 (by decide) rfl ?_
    refine MV.iload_n dX12_word_32 rfl ?_
    refine MV.iadd dX12_word_33 ?_
    refine MV.aload_n dX12_word_34 rfl ?_
    refine MV.getf 23 fl_X12_154 dX12_word_35 (by decide) rfl ?_
    refine MV.icmp_ge 69 dX12_word_38 (by decide) (fun c38 => ?_) (fun c38 => ?_)
    · skip
      have hne : ¬ e = q + lwF n := fun z => by
        have h38 : e ≤ q + i := Nat.not_lt.mp fun y => nI_ge (a := q + i) (b := e) y (by omega) (by rw [← e23, ← nI_add, ← e24]; exact c38)
        omega
      have hmf : mtB (s.2.1 1) q e n = false := mtB_no1 hne
      refine MV.ldcM rfl dX12_word_69 ?_
      refine MV.iload_n dX12_word_71 rfl ?_
      refine MV.iload_n dX12_word_72 rfl ?_
      refine MV.iadd dX12_word_73 ?_
      refine MV.eqi (nI (offF n + i)) (nI_add _ _) ?_
      refine MV.strAt (by omega) (by omega) ml_X12_198 dX12_word_74 (Nat.le_of_ble_eq_true rfl) ?_
      refine MV.bipush (v := 32) dX12_word_77 (by decide) ?_
      refine MV.icmp_ne 97 dX12_word_79 (by decide) (fun _ => ?_) (fun z => absurd z (f4 i (by omega)))
      exact MV.weak [some (.ref a), some (.int (nI n)), some (.int (nI (offF n))), none] (by simp [leL, sto1, sto2, k2c]) (hno hmf)
    · skip
      have h38 : q + i < e := Nat.not_le.mp fun z => c38 (by rw [e23, e24, nI_add]; exact nI_le z (by omega))
      refine MV.aload_n dX12_word_41 rfl ?_
      refine MV.getf 1 fl_X12_7 dX12_word_42 (by decide) rfl ?_
      refine MV.aload_n dX12_word_45 rfl ?_
      refine MV.getf 24 fl_X12_164 dX12_word_46 (by decide) rfl ?_
      refine MV.iload_n dX12_word_49 rfl ?_
      refine MV.iadd dX12_word_50 ?_
      refine MV.ald C12_in1 dX12_word_51 ((congrArg (· + nI i) e24).trans (nI_add q i)) (by omega) (by decide) ?_
      refine MV.ldcM rfl dX12_word_52 ?_
      refine MV.iload_n dX12_word_54 rfl ?_
      refine MV.iload_n dX12_word_55 rfl ?_
      refine MV.iadd dX12_word_56 ?_
      refine MV.eqi (nI (offF n + i)) (nI_add _ _) ?_
      refine MV.strAt (by omega) (by omega) ml_X12_198 dX12_word_57 (Nat.le_of_ble_eq_true rfl) ?_
      refine MV.icmp_ne 69 dX12_word_60 (by decide) (fun c60 => ?_) (fun c60 => ?_)
      · skip
        have hmf : mtB (s.2.1 1) q e n = false := mtB_no2 (i := i) (by omega) c60
        refine MV.ldcM rfl dX12_word_69 ?_
        refine MV.iload_n dX12_word_71 rfl ?_
        refine MV.iload_n dX12_word_72 rfl ?_
        refine MV.iadd dX12_word_73 ?_
        refine MV.eqi (nI (offF n + i)) (nI_add _ _) ?_
        refine MV.strAt (by omega) (by omega) ml_X12_198 dX12_word_74 (Nat.le_of_ble_eq_true rfl) ?_
        refine MV.bipush (v := 32) dX12_word_77 (by decide) ?_
        refine MV.icmp_ne 97 dX12_word_79 (by decide) (fun _ => ?_) (fun z => absurd z (f4 i (by omega)))
        exact MV.weak [some (.ref a), some (.int (nI n)), some (.int (nI (offF n))), none] (by simp [leL, sto1, sto2, k2c]) (hno hmf)
      · skip
        refine MV.iinc (v := 1) dX12_word_63 rfl (by decide) (by decide) rfl ?_
        refine MV.goto 15 dX12_word_66 (by decide) ?_
        exact MV.weak [some (.ref a), some (.int (nI n)), some (.int (nI (offF n))), some (.int (nI (i + 1)))] (by simp [leL, sto1, sto2, k2c, nI_1]) (ih (i + 1) (by omega) (fun j hj => if hji : j = i then by rw [hji]; exact c60 else hall j (by omega)))
set_option maxRecDepth 100000 in
set_option maxHeartbeats 2000000 in
theorem wordSkip_M {d n0 a : Nat} {κ : Kd} {h0 : Hp} (hd : 5 ≤ d) {s : St} {n : Nat} (hn : n < 21) {P : Option Value → St → Prop} (hk : MV MX12_word (d, 0, 0, n0, κ) a h0 s 4 [some (.ref a), some (.int (nI (n + 1))), some (.int (nI (offF (n + 1)))), none] [] P) : ∀ (k i : Nat), i + k = lwF n → MV MX12_word (d, 0, 0, n0, κ) a h0 s 97 [some (.ref a), some (.int (nI n)), some (.int (nI (offF n + i))), none] [] P := by
  obtain ⟨f1, f2, f3, f4⟩ := off_F n hn
  intro k
  induction k with
  | zero =>
    intro i hik
    have hin : i = lwF n := by omega
    have f3i : chM (offF n + i) = 32 := by rw [hin]; exact f3
    refine MV.ldcM rfl dX12_word_97 ?_
    refine MV.iload_n dX12_word_99 rfl ?_
    refine MV.strAt (by omega) (by omega) ml_X12_198 dX12_word_100 (Nat.le_of_ble_eq_true rfl) ?_
    refine MV.bipush (v := 32) dX12_word_103 (by decide) ?_
    refine MV.icmp_eq 114 dX12_word_105 (by decide) (fun _ => ?_) (fun z => absurd (f3i) z)
    refine MV.iinc (v := 1) dX12_word_114 rfl (by decide) (by decide) rfl ?_
    refine MV.iinc (v := 1) dX12_word_117 rfl (by decide) (by decide) rfl ?_
    refine MV.goto 4 dX12_word_120 (by decide) ?_
    exact MV.weak [some (.ref a), some (.int (nI (n + 1))), some (.int (nI (offF (n + 1)))), none] (by rw [f1, ← hin]; simp [leL, sto1, sto2, k2c, nI_1]) hk
  | succ k ih =>
    intro i hik
    refine MV.ldcM rfl dX12_word_97 ?_
    refine MV.iload_n dX12_word_99 rfl ?_
    refine MV.strAt (by omega) (by omega) ml_X12_198 dX12_word_100 (Nat.le_of_ble_eq_true rfl) ?_
    refine MV.bipush (v := 32) dX12_word_103 (by decide) ?_
    refine MV.icmp_eq 114 dX12_word_105 (by decide) (fun z => absurd z (f4 i (by omega))) (fun _ => ?_)
    refine MV.iinc (v := 1) dX12_word_108 rfl (by decide) (by decide) rfl ?_
    refine MV.goto 97 dX12_word_111 (by decide) ?_
    exact MV.weak [some (.ref a), some (.int (nI n)), some (.int (nI (offF n + (i + 1)))), none] (by simp [leL, sto1, sto2, k2c, nI_1, Nat.add_assoc]) (ih (i + 1) (by omega))
set_option maxRecDepth 100000 in
set_option maxHeartbeats 2000000 in
theorem word_M {d n0 a : Nat} {κ : Kd} {h0 : Hp} (hd : 5 ≤ d) {s : St} {q e : Nat} (e24 : s.1 24 = nI q) (e23 : s.1 23 = nI e) (he : e ≤ 700) (hq : q ≤ e) : MV MX12_word (d, 0, 0, n0, κ) a h0 s 0 [some (.ref a), none, none, none] [] (mR s (.int (wdM (s.2.1 1) q e 21 0))) := by
  suffices hL : ∀ (k n : Nat), n + k = 21 → wdM (s.2.1 1) q e k n = wdM (s.2.1 1) q e 21 0 → MV MX12_word (d, 0, 0, n0, κ) a h0 s 4 [some (.ref a), some (.int (nI n)), some (.int (nI (offF n))), none] [] (mR s (.int (wdM (s.2.1 1) q e 21 0))) from by
    skip
    refine MV.iconst (v := nI 0) dX12_word_0 (by decide) ?_
    refine MV.istore_n dX12_word_1 (by decide) rfl ?_
    refine MV.iconst (v := nI (offF 0)) dX12_word_2 (by decide) ?_
    refine MV.istore_n dX12_word_3 (by decide) rfl ?_
    exact hL 21 0 (by omega) rfl
  intro k
  induction k with
  | zero =>
    intro n hnk hv
    have hn : n = 21 := by omega
    subst hn
    refine MV.iload_n dX12_word_4 rfl ?_
    refine MV.ldcM rfl dX12_word_5 ?_
    refine MV.strLen (by omega) ml_X12_193 dX12_word_7 (Nat.le_of_ble_eq_true rfl) ?_
    refine MV.icmp_ge 123 dX12_word_10 (by decide) (fun _ => ?_) (fun z => absurd (show (102 : Int32) ≤ nI (offF 21) by decide) z)
    refine MV.iconst (v := (-1)) dX12_word_123 (by decide) ?_
    refine MV.iret dX12_word_124 rfl ?_
    exact ⟨by rw [← hv]; rfl, rfl⟩
  | succ k ih =>
    intro n hnk hv
    refine MV.iload_n dX12_word_4 rfl ?_
    refine MV.ldcM rfl dX12_word_5 ?_
    refine MV.strLen (by omega) ml_X12_193 dX12_word_7 (Nat.le_of_ble_eq_true rfl) ?_
    refine MV.icmp_ge 123 dX12_word_10 (by decide) (fun z => absurd z (nI_ge (a := offF n) (b := 102) (by have := (off_F n (by omega)).2.1; omega) (by decide))) (fun _ => ?_)
    refine MV.iconst (v := nI 0) dX12_word_13 (by decide) ?_
    refine MV.istore_n dX12_word_14 (by decide) rfl ?_
    exact wordIn_M (by omega) e24 e23 he hq (by omega) (fun hm => ⟨by rw [← hv, wdM, if_pos hm], rfl⟩) (fun hm => wordSkip_M (by omega) (by omega) (ih (n + 1) (by omega) (by rw [← hv, wdM, if_neg (by rw [hm]; decide)])) (lwF n) 0 (by omega)) (lwF n) 0 (by omega) (fun j hj => absurd hj (by omega))
