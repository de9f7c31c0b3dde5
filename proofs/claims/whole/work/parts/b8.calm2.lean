/-! The face of BurntEnds: calm -/
theorem rem101 : ∀ x, x < 101 → ∀ y, y < 101 → ¬ y = 0 → nI x - nI x / nI y * nI y = nI (x % y) ∧ ¬ nI y = 0 := by decide +kernel
theorem div101 : ∀ x, x < 101 → ∀ y, y < 101 → ¬ y = 0 → nI x / nI y = nI (x / y) := by decide +kernel
theorem gcd101 : ∀ D, D < 101 → Nat.gcd (100 - D) 100 < 101 ∧ ¬ Nat.gcd (100 - D) 100 = 0 ∧ (if 1 < nI (Nat.gcd (100 - D) 100) then nI (Nat.gcd (100 - D) 100) else 1) = nI (Nat.gcd (100 - D) 100) ∧ 100 - nI D = nI (100 - D) := by decide +kernel
set_option maxRecDepth 100000 in
set_option maxHeartbeats 1000000 in
theorem gcd_V {d n0 : Nat} {κ : Kd} (hd : 1 ≤ d) {h : Hp} {A B : Nat} (hA : A ≤ 100) (hB : B ≤ 100) : V MX11_commonDivisor (d, 0, 0, n0, κ) 0 0 h 0 [some (.int (nI A)), some (.int (nI B)), none, none, none, none] [] (Rd h (.int (nI (Nat.gcd A B)))) := by
  refine V.iload_n dX11_commonDivisor_0 rfl ?_
  refine V.istore_n dX11_commonDivisor_1 (by decide) rfl ?_
  refine V.iload_n dX11_commonDivisor_2 rfl ?_
  refine V.istore_n dX11_commonDivisor_3 (by decide) rfl ?_
  refine V.iconst (v := nI 0) dX11_commonDivisor_4 (by decide) ?_
  refine V.istore dX11_commonDivisor_5 (by decide) rfl ?_
  suffices hL : ∀ (k i x y : Nat), i + k = 100 → y ≤ k → x ≤ 100 → y ≤ 100 → Nat.gcd x y = Nat.gcd A B → V MX11_commonDivisor (d, 0, 0, n0, κ) 0 0 h 7 [some (.int (nI A)), some (.int (nI B)), some (.int (nI x)), some (.int (nI y)), some (.int (nI i)), none] [] (Rd h (.int (nI (Nat.gcd A B)))) from hL 100 0 B A (by omega) hA hB hA (Nat.gcd_comm B A)
  intro k
  induction k with
  | zero =>
    intro i x y hik hyk hx hy hg
    have hy0 : y = 0 := by omega
    have hi : i = 100 := by omega
    rw [hi]
    refine V.iload dX11_commonDivisor_7 rfl ?_
    refine V.bipush (v := nI 100) dX11_commonDivisor_9 (by decide) ?_
    refine V.icmp_ge 34 dX11_commonDivisor_11 (by decide) (fun _ => ?_) (fun z => absurd (nI_le (by omega) (by omega)) z)
    refine V.iload_n dX11_commonDivisor_34 rfl ?_
    refine V.iret dX11_commonDivisor_35 rfl ?_
    exact ⟨by rw [← hg, hy0, Nat.gcd_zero_right], rfl⟩
  | succ k ih =>
    intro i x y hik hyk hx hy hg
    by_cases hy0 : y = 0
    · skip
      refine V.iload dX11_commonDivisor_7 rfl ?_
      refine V.bipush (v := nI 100) dX11_commonDivisor_9 (by decide) ?_
      refine V.icmp_ge 34 dX11_commonDivisor_11 (by decide) (fun z => absurd z (nI_ge (by omega) (by omega))) (fun _ => ?_)
      refine V.iload_n dX11_commonDivisor_14 rfl ?_
      refine V.if_eq 34 dX11_commonDivisor_15 (by decide) (fun _ => ?_) (fun z => absurd (by rw [hy0]; rfl) z)
      refine V.iload_n dX11_commonDivisor_34 rfl ?_
      refine V.iret dX11_commonDivisor_35 rfl ?_
      exact ⟨by rw [← hg, hy0, Nat.gcd_zero_right], rfl⟩
    · skip
      refine V.iload dX11_commonDivisor_7 rfl ?_
      refine V.bipush (v := nI 100) dX11_commonDivisor_9 (by decide) ?_
      refine V.icmp_ge 34 dX11_commonDivisor_11 (by decide) (fun z => absurd z (nI_ge (by omega) (by omega))) (fun _ => ?_)
      refine V.iload_n dX11_commonDivisor_14 rfl ?_
      refine V.if_eq 34 dX11_commonDivisor_15 (by decide) (fun z => absurd z ((rem101 x (by omega) y (by omega) hy0).2)) (fun _ => ?_)
      refine V.iload_n dX11_commonDivisor_18 rfl ?_
      refine V.iload_n dX11_commonDivisor_19 rfl ?_
      refine V.irem dX11_commonDivisor_20 ((rem101 x (by omega) y (by omega) hy0).2) ?_
      refine V.eqi (y := nI (x % y)) (rem101 x (by omega) y (by omega) hy0).1 ?_
      refine V.istore dX11_commonDivisor_21 (by decide) rfl ?_
      refine V.iload_n dX11_commonDivisor_23 rfl ?_
      refine V.istore_n dX11_commonDivisor_24 (by decide) rfl ?_
      refine V.iload dX11_commonDivisor_25 rfl ?_
      refine V.istore_n dX11_commonDivisor_27 (by decide) rfl ?_
      refine V.iinc (v := 1) dX11_commonDivisor_28 rfl (by decide) (by decide) rfl ?_
      refine V.goto 7 dX11_commonDivisor_31 (by decide) ?_
      refine V.weak [some (.int (nI A)), some (.int (nI B)), some (.int (nI y)), some (.int (nI (x % y))), some (.int (nI (i + 1))), none] (by simp [leL, sto1, sto2, k2c, nI_1]) ?_
      exact ih (i + 1) y (x % y) (by omega) (by have := Nat.mod_lt x (Nat.pos_of_ne_zero hy0); omega) hy (by have := Nat.mod_lt x (Nat.pos_of_ne_zero hy0); omega) (by rw [← hg, Nat.gcd_comm x y, Nat.gcd_rec y x, Nat.gcd_comm])
set_option maxRecDepth 100000 in
set_option maxHeartbeats 1000000 in
theorem calm0_F {d n0 z : Nat} {κ : Kd} {h0 : Hp} (hd : 3 ≤ d) {s : St} {T T2 : Tx} {c g th u F k pa tu rd tk : St} {w : Int32} {D n b : Nat} (hD : D ≤ 100) (hD1 : T.1.1 10 = nI D) (hn6 : n ≤ 6) (c1 : ¬ nI n < 0) (q7 : ¬ 6 < nI n) (hw2 : w = 0) (hbb1 : (100 - D) / Nat.gcd (100 - D) 100 = b) : GV (IB z h0) MX11_calm (d, 0, 0, n0, κ) (mkF s T T2 c g th u F k pa tu rd tk) 23 [some (.ref z), some (.int (nI n)), some (.int w), none, none, none, none, none, none] [] (gR (mkF s T T2 c g th u F k pa tu rd tk) (.long (aCalm T (nI n) w))) := by
  have hDn : nat (T.1.1 10) = D := by rw [hD1]; exact nI_clamp (by omega)
  have hnn : nat (nI n) = n := nI_clamp (by omega)
  have hw0 : ¬ w < 0 := by rw [hw2]; decide
  have hw1 : ¬ 1 < w := by rw [hw2]; decide
  have hbb : (if w = 0 then 100 - D else 100) / Nat.gcd (100 - D) 100 = b := by rw [hw2]; exact hbb1
  have hb101 : b < 101 := by rw [← hbb1]; exact Nat.lt_of_le_of_lt (Nat.div_le_self _ _) (by omega)
  refine GV.iconst (v := 1) dX11_calm_23 (by decide) ?_
  refine GV.bipush (v := 100) dX11_calm_24 (by decide) ?_
  refine GV.aload_n dX11_calm_26 rfl ?_
  refine GV.getf okX11 3 (fun h H => H.aown.1) fl_X11_25 dX11_calm_27 (by decide) rfl ?_
  refine GV.getf okX8 10 (fun h H => H.aT.1.1) fl_X11_303 dX11_calm_30 (by decide) rfl ?_
  refine GV.isub dX11_calm_33 ?_
  refine GV.eqi (y := nI (100 - D)) (by rw [hD1]; exact (gcd101 D (by omega)).2.2.2) ?_
  refine GV.bipush (v := nI 100) dX11_calm_34 (by decide) ?_
  refine GV.cS2 yoX11_commonDivisor ml_X11_306 st_X11_commonDivisor dX11_calm_36 (Nat.le_of_ble_eq_true rfl) (by omega) rfl (Nat.le_of_ble_eq_true rfl) (GV.rd (fun _ _ => gcd_V (A := 100 - D) (B := 100) (by omega) (by omega) (by omega))) (GV.rdK ?_)
  refine GV.mmax ml_X11_310 st_J9_max_7cf53 ini_J9 co_J9_max_7cf53 dX11_calm_39 (by omega) (Nat.le_of_ble_eq_true rfl) ?_
  refine GV.eqi (y := nI (Nat.gcd (100 - D) 100)) (by exact (gcd101 D (by omega)).2.2.1) ?_
  refine GV.istore_n dX11_calm_42 (by decide) rfl ?_
  refine GV.iload_n dX11_calm_43 rfl ?_
  refine GV.if_ne 60 dX11_calm_44 (by decide) (fun z => absurd (hw2) z) (fun _ => ?_)
  refine GV.bipush (v := 100) dX11_calm_47 (by decide) ?_
  refine GV.aload_n dX11_calm_49 rfl ?_
  refine GV.getf okX11 3 (fun h H => H.aown.1) fl_X11_25 dX11_calm_50 (by decide) rfl ?_
  refine GV.getf okX8 10 (fun h H => H.aT.1.1) fl_X11_303 dX11_calm_53 (by decide) rfl ?_
  refine GV.isub dX11_calm_56 ?_
  refine GV.goto 62 dX11_calm_57 (by decide) ?_
  refine GV.eqi (y := nI (100 - D)) (by rw [hD1]; exact (gcd101 D (by omega)).2.2.2) ?_
  refine GV.iload_n dX11_calm_62 rfl ?_
  refine GV.idiv dX11_calm_63 (fun z => (gcd101 D (by omega)).2.1 (nI_inj0 (y := 0) (by have := (gcd101 D (by omega)).1; omega) (by decide) z)) ?_
  refine GV.eqi (y := nI b) (by rw [div101 _ (by omega) _ (gcd101 D (by omega)).1 (gcd101 D (by omega)).2.1]; exact congrArg nI hbb1) ?_
  refine GV.i2l dX11_calm_64 ?_
  refine GV.eql (y := lN b) (nI_l (by omega)) ?_
  refine GV.lstore dX11_calm_65 (by decide) rfl ?_
  refine GV.lconst (v := 1) dX11_calm_67 (by decide) ?_
  refine GV.lstore dX11_calm_68 (by decide) rfl ?_
  refine GV.iconst (v := 0) dX11_calm_70 (by decide) ?_
  refine GV.istore dX11_calm_71 (by decide) rfl ?_
  refine GV.weak [some (.ref z), some (.int (nI n)), some (.int w), some (.int (nI (Nat.gcd (100 - D) 100))), some (.long (lN b)), none, some (.long (lN (b ^ 0))), none, some (.int (nI 0))] (by simp [leL, sto1, sto2, k2c]; exact ⟨rfl, rfl⟩) ?_
  have hL : ∀ (j i : Nat), i + j = n → GV (IB z h0) MX11_calm (d, 0, 0, n0, κ) (mkF s T T2 c g th u F k pa tu rd tk) 73 [some (.ref z), some (.int (nI n)), some (.int w), some (.int (nI (Nat.gcd (100 - D) 100))), some (.long (lN b)), none, some (.long (lN (b ^ i))), none, some (.int (nI i))] [] (gR (mkF s T T2 c g th u F k pa tu rd tk) (.long (aCalm T (nI n) w))) := by
    intro j
    induction j with
    | zero =>
      intro i hij
      have hin : n = i := by omega
      subst hin
      refine GV.iload dX11_calm_73 rfl ?_
      refine GV.iload_n dX11_calm_75 rfl ?_
      refine GV.icmp_ge 92 dX11_calm_76 (by decide) (fun _ => ?_) (fun z => absurd (nI_le (by omega) (by omega)) z)
      refine GV.lload dX11_calm_92 rfl ?_
      refine GV.lret dX11_calm_94 rfl ?_
      exact ⟨by rw [aCalm, if_pos ⟨c1, q7, hw0, hw1⟩, hnn, hDn, calmN, hbb], rfl⟩
    | succ j ih =>
      intro i hij
      refine GV.iload dX11_calm_73 rfl ?_
      refine GV.iload_n dX11_calm_75 rfl ?_
      refine GV.icmp_ge 92 dX11_calm_76 (by decide) (fun z => absurd z (nI_ge (by omega) (by omega))) (fun _ => ?_)
      refine GV.lload dX11_calm_79 rfl ?_
      refine GV.lload dX11_calm_81 rfl ?_
      refine GV.lmul dX11_calm_83 ?_
      refine GV.eql (y := lN (b ^ (i + 1))) (by rw [lN_mul, ← Nat.pow_succ]) ?_
      refine GV.lstore dX11_calm_84 (by decide) rfl ?_
      refine GV.iinc (v := 1) dX11_calm_86 rfl (by decide) (by decide) rfl ?_
      refine GV.goto 73 dX11_calm_89 (by decide) ?_
      refine GV.weak [some (.ref z), some (.int (nI n)), some (.int w), some (.int (nI (Nat.gcd (100 - D) 100))), some (.long (lN b)), none, some (.long (lN (b ^ (i + 1)))), none, some (.int (nI (i + 1)))] (by simp [leL, sto1, sto2, k2c, nI_1]) ?_
      exact ih (i + 1) (by omega)
  exact hL n 0 (by omega)
set_option maxRecDepth 100000 in
set_option maxHeartbeats 1000000 in
theorem calm1_F {d n0 z : Nat} {κ : Kd} {h0 : Hp} (hd : 3 ≤ d) {s : St} {T T2 : Tx} {c g th u F k pa tu rd tk : St} {w : Int32} {D n b : Nat} (hD : D ≤ 100) (hD1 : T.1.1 10 = nI D) (hn6 : n ≤ 6) (c1 : ¬ nI n < 0) (q7 : ¬ 6 < nI n) (hw2 : w = 1) (hbb1 : 100 / Nat.gcd (100 - D) 100 = b) : GV (IB z h0) MX11_calm (d, 0, 0, n0, κ) (mkF s T T2 c g th u F k pa tu rd tk) 23 [some (.ref z), some (.int (nI n)), some (.int w), none, none, none, none, none, none] [] (gR (mkF s T T2 c g th u F k pa tu rd tk) (.long (aCalm T (nI n) w))) := by
  have hDn : nat (T.1.1 10) = D := by rw [hD1]; exact nI_clamp (by omega)
  have hnn : nat (nI n) = n := nI_clamp (by omega)
  have hw0 : ¬ w < 0 := by rw [hw2]; decide
  have hw1 : ¬ 1 < w := by rw [hw2]; decide
  have hbb : (if w = 0 then 100 - D else 100) / Nat.gcd (100 - D) 100 = b := by rw [hw2]; exact hbb1
  have hb101 : b < 101 := by rw [← hbb1]; exact Nat.lt_of_le_of_lt (Nat.div_le_self _ _) (by omega)
  refine GV.iconst (v := 1) dX11_calm_23 (by decide) ?_
  refine GV.bipush (v := 100) dX11_calm_24 (by decide) ?_
  refine GV.aload_n dX11_calm_26 rfl ?_
  refine GV.getf okX11 3 (fun h H => H.aown.1) fl_X11_25 dX11_calm_27 (by decide) rfl ?_
  refine GV.getf okX8 10 (fun h H => H.aT.1.1) fl_X11_303 dX11_calm_30 (by decide) rfl ?_
  refine GV.isub dX11_calm_33 ?_
  refine GV.eqi (y := nI (100 - D)) (by rw [hD1]; exact (gcd101 D (by omega)).2.2.2) ?_
  refine GV.bipush (v := nI 100) dX11_calm_34 (by decide) ?_
  refine GV.cS2 yoX11_commonDivisor ml_X11_306 st_X11_commonDivisor dX11_calm_36 (Nat.le_of_ble_eq_true rfl) (by omega) rfl (Nat.le_of_ble_eq_true rfl) (GV.rd (fun _ _ => gcd_V (A := 100 - D) (B := 100) (by omega) (by omega) (by omega))) (GV.rdK ?_)
  refine GV.mmax ml_X11_310 st_J9_max_7cf53 ini_J9 co_J9_max_7cf53 dX11_calm_39 (by omega) (Nat.le_of_ble_eq_true rfl) ?_
  refine GV.eqi (y := nI (Nat.gcd (100 - D) 100)) (by exact (gcd101 D (by omega)).2.2.1) ?_
  refine GV.istore_n dX11_calm_42 (by decide) rfl ?_
  refine GV.iload_n dX11_calm_43 rfl ?_
  refine GV.if_ne 60 dX11_calm_44 (by decide) (fun _ => ?_) (fun z => absurd z (by rw [hw2]; decide))
  refine GV.bipush (v := nI 100) dX11_calm_60 (by decide) ?_
  refine GV.iload_n dX11_calm_62 rfl ?_
  refine GV.idiv dX11_calm_63 (fun z => (gcd101 D (by omega)).2.1 (nI_inj0 (y := 0) (by have := (gcd101 D (by omega)).1; omega) (by decide) z)) ?_
  refine GV.eqi (y := nI b) (by rw [div101 _ (by omega) _ (gcd101 D (by omega)).1 (gcd101 D (by omega)).2.1]; exact congrArg nI hbb1) ?_
  refine GV.i2l dX11_calm_64 ?_
  refine GV.eql (y := lN b) (nI_l (by omega)) ?_
  refine GV.lstore dX11_calm_65 (by decide) rfl ?_
  refine GV.lconst (v := 1) dX11_calm_67 (by decide) ?_
  refine GV.lstore dX11_calm_68 (by decide) rfl ?_
  refine GV.iconst (v := 0) dX11_calm_70 (by decide) ?_
  refine GV.istore dX11_calm_71 (by decide) rfl ?_
  refine GV.weak [some (.ref z), some (.int (nI n)), some (.int w), some (.int (nI (Nat.gcd (100 - D) 100))), some (.long (lN b)), none, some (.long (lN (b ^ 0))), none, some (.int (nI 0))] (by simp [leL, sto1, sto2, k2c]; exact ⟨rfl, rfl⟩) ?_
  have hL : ∀ (j i : Nat), i + j = n → GV (IB z h0) MX11_calm (d, 0, 0, n0, κ) (mkF s T T2 c g th u F k pa tu rd tk) 73 [some (.ref z), some (.int (nI n)), some (.int w), some (.int (nI (Nat.gcd (100 - D) 100))), some (.long (lN b)), none, some (.long (lN (b ^ i))), none, some (.int (nI i))] [] (gR (mkF s T T2 c g th u F k pa tu rd tk) (.long (aCalm T (nI n) w))) := by
    intro j
    induction j with
    | zero =>
      intro i hij
      have hin : n = i := by omega
      subst hin
      refine GV.iload dX11_calm_73 rfl ?_
      refine GV.iload_n dX11_calm_75 rfl ?_
      refine GV.icmp_ge 92 dX11_calm_76 (by decide) (fun _ => ?_) (fun z => absurd (nI_le (by omega) (by omega)) z)
      refine GV.lload dX11_calm_92 rfl ?_
      refine GV.lret dX11_calm_94 rfl ?_
      exact ⟨by rw [aCalm, if_pos ⟨c1, q7, hw0, hw1⟩, hnn, hDn, calmN, hbb], rfl⟩
    | succ j ih =>
      intro i hij
      refine GV.iload dX11_calm_73 rfl ?_
      refine GV.iload_n dX11_calm_75 rfl ?_
      refine GV.icmp_ge 92 dX11_calm_76 (by decide) (fun z => absurd z (nI_ge (by omega) (by omega))) (fun _ => ?_)
      refine GV.lload dX11_calm_79 rfl ?_
      refine GV.lload dX11_calm_81 rfl ?_
      refine GV.lmul dX11_calm_83 ?_
      refine GV.eql (y := lN (b ^ (i + 1))) (by rw [lN_mul, ← Nat.pow_succ]) ?_
      refine GV.lstore dX11_calm_84 (by decide) rfl ?_
      refine GV.iinc (v := 1) dX11_calm_86 rfl (by decide) (by decide) rfl ?_
      refine GV.goto 73 dX11_calm_89 (by decide) ?_
      refine GV.weak [some (.ref z), some (.int (nI n)), some (.int w), some (.int (nI (Nat.gcd (100 - D) 100))), some (.long (lN b)), none, some (.long (lN (b ^ (i + 1)))), none, some (.int (nI (i + 1)))] (by simp [leL, sto1, sto2, k2c, nI_1]) ?_
      exact ih (i + 1) (by omega)
  exact hL n 0 (by omega)
set_option maxRecDepth 100000 in
set_option maxHeartbeats 1000000 in
theorem calm_F {d n0 z : Nat} {κ : Kd} {h0 : Hp} (hd : 3 ≤ d) {s : St} {T T2 : Tx} {c g th u F k pa tu rd tk : St} {x w : Int32} {D : Nat} (hD : D ≤ 100) (hD1 : T.1.1 10 = nI D) : GV (IB z h0) MX11_calm (d, 0, 0, n0, κ) (mkF s T T2 c g th u F k pa tu rd tk) 0 [some (.ref z), some (.int (x)), some (.int (w)), none, none, none, none, none, none] [] (gR (mkF s T T2 c g th u F k pa tu rd tk) (.long (aCalm T x w))) := by
  refine GV.iload_n dX11_calm_0 rfl ?_
  refine GV.if_lt 19 dX11_calm_1 (by decide) (fun c1 => ?_) (fun c1 => ?_)
  · skip
    have hA : aCalm T x w = -1 := by rw [aCalm, if_neg (fun z => z.1 c1)]
    refine GV.ldc2 kc_X11_301 dX11_calm_19 ?_
    refine GV.lret dX11_calm_22 rfl ?_
    exact ⟨by rw [hA], rfl⟩
  · skip
    refine GV.iload_n dX11_calm_4 rfl ?_
    refine GV.bipush (v := 6) dX11_calm_5 (by decide) ?_
    refine GV.icmp_gt 19 dX11_calm_7 (by decide) (fun c7 => ?_) (fun c7 => ?_)
    · skip
      have hA : aCalm T x w = -1 := by rw [aCalm, if_neg (fun z => z.2.1 c7)]
      refine GV.ldc2 kc_X11_301 dX11_calm_19 ?_
      refine GV.lret dX11_calm_22 rfl ?_
      exact ⟨by rw [hA], rfl⟩
    · skip
      obtain ⟨n, hn31, rfl⟩ := nI_of c1
      have hn6 : n ≤ 6 := Nat.not_lt.mp fun z => c7 (nI_lt (a := 6) z hn31)
      refine GV.iload_n dX11_calm_10 rfl ?_
      refine GV.if_eq 23 dX11_calm_11 (by decide) (fun c11 => ?_) (fun c11 => ?_)
      · skip
        exact calm0_F hd hD hD1 hn6 c1 c7 c11 rfl
        --done
      · skip
        refine GV.iload_n dX11_calm_14 rfl ?_
        refine GV.iconst (v := 1) dX11_calm_15 (by decide) ?_
        refine GV.icmp_eq 23 dX11_calm_16 (by decide) (fun c16 => ?_) (fun c16 => ?_)
        · skip
          exact calm1_F hd hD hD1 hn6 c1 c7 c16 rfl
          --done
        · skip
          have hA : aCalm T (nI n) w = -1 := by
            rw [aCalm, if_neg]
            intro z
            obtain ⟨m, hm, rfl⟩ := nI_of z.2.2.1
            have : m ≤ 1 := Nat.not_lt.mp fun q => z.2.2.2 (nI_lt (a := 1) q hm)
            rcases (show m = 0 ∨ m = 1 by omega) with q | q
            · exact c11 (by rw [q]; rfl)
            · exact c16 (by rw [q]; rfl)
          refine GV.ldc2 kc_X11_301 dX11_calm_19 ?_
          refine GV.lret dX11_calm_22 rfl ?_
          exact ⟨by rw [hA], rfl⟩
