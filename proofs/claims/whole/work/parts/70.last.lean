/-! The model: last, calm -/
set_option maxRecDepth 100000 in
set_option maxHeartbeats 2000000 in
theorem last_M {d n0 a : Nat} {κ : Kd} {h0 : Hp} (hd : 4 ≤ d) {T : Tx} {s c : St} (hqu : qui s) (hR : Rm T s 0 c) {x : Int32} : MV MX12_last (d, 0, 0, n0, κ) a h0 s 0 [some (.ref a), some (.int (x)), none, none, none, none] [] (fun v s' => v = some (.int (aLast T c x)) ∧ frX s s') := by
  obtain ⟨hn0, n6⟩ := lo0 hR
  have h64 := (two_n _ n6).2
  replace hn0 : (mI s 0 0).2.1 3 0 = nI (nat (T.1.1 0)) := hn0
  refine MV.aload_n dX12_last_0 rfl ?_
  refine MV.iconst (v := 0) dX12_last_1 (by decide) ?_
  refine MV.putf 0 fl_X12_148 dX12_last_2 (by decide) rfl (rfl) (rfl) C12_s0 ?_
  refine MV.iload_n dX12_last_5 rfl ?_
  refine MV.if_lt 16 dX12_last_6 (by decide) (fun c6 => ?_) (fun c6 => ?_)
  · skip
    have hA : aLast T c x = -1 := by rw [aLast, if_neg (fun z => z.1 c6)]
    refine MV.iconst (v := (-1)) dX12_last_16 (by decide) ?_
    refine MV.iret dX12_last_17 rfl ?_
    exact ⟨by rw [hA], frX.z⟩
  · skip
    refine MV.iload_n dX12_last_9 rfl ?_
    refine MV.sipush (v := 360) dX12_last_10 (by decide) ?_
    refine MV.icmp_le 18 dX12_last_13 (by decide) (fun c13 => ?_) (fun c13 => ?_)
    · skip
      have q13 : ¬ 360 < x := Int32.not_lt.mpr c13
      refine MV.bipush (v := (-2)) dX12_last_18 (by decide) ?_
      refine MV.istore_n dX12_last_20 (by decide) rfl ?_
      refine MV.iconst (v := nI 0) dX12_last_21 (by decide) ?_
      refine MV.istore_n dX12_last_22 (by decide) rfl ?_
      suffices hL : ∀ (j i : Nat), i + j = 2 ^ nat (T.1.1 0) → MV MX12_last (d, 0, 0, n0, κ) a h0 (mI s 0 0) 23 [some (.ref a), some (.int (x)), some (.int (bestF (lastB T c x) i)), some (.int (nI i)), none, none] [] (fun v s' => v = some (.int (aLast T c x)) ∧ frX s s') from by
        exact hL (2 ^ nat (T.1.1 0)) 0 (by omega)
      intro j
      induction j with
      | zero =>
        intro i hij
        refine MV.iload_n dX12_last_23 rfl ?_
        refine MV.iconst (v := 1) dX12_last_24 (by decide) ?_
        refine MV.aload_n dX12_last_25 rfl ?_
        refine MV.getf 3 fl_X12_13 dX12_last_26 (by decide) rfl ?_
        refine MV.iconst (v := nI 0) dX12_last_29 (by decide) ?_
        refine MV.ald C12_in3 dX12_last_30 (rfl) (by omega) (by decide) ?_
        refine MV.ishl dX12_last_31 ?_
        refine MV.eqi (nI (2 ^ nat (T.1.1 0))) (by rw [show (mI s 0 0).2.1 3 0 = nI (nat (T.1.1 0)) from hn0]; exact (two_n _ n6).1) ?_
        refine MV.icmp_ge 113 dX12_last_32 (by decide) (fun _ => ?_) (fun z => absurd (nI_le (by omega) (by omega)) z)
        refine MV.iload_n dX12_last_113 rfl ?_
        refine MV.iret dX12_last_114 rfl ?_
        exact ⟨by rw [aLast, if_pos ⟨c6, q13⟩, show i = 2 ^ nat (T.1.1 0) by omega], frX.z⟩
      | succ j ih =>
        intro i hij
        have h84 : ∀ {p : Nat}, p = nat (T.1.1 0) → MV MX12_last (d, 0, 0, n0, κ) a h0 (mI s 0 0) 84 [some (.ref a), some (.int (x)), some (.int (bestF (lastB T c x) i)), some (.int (nI i)), some (.int (sumI (fun p => if (nI i >>> (nI p &&& 31)) &&& 1 = 0 then 0 else cLeft c p) p)), some (.int (nI p))] [] (fun v s' => v = some (.int (aLast T c x)) ∧ frX s s') := by
          intro p hpn
          have hsum : sumI (fun p => if (nI i >>> (nI p &&& 31)) &&& 1 = 0 then 0 else cLeft c p) p = sumSet c (nI i) (nat (T.1.1 0)) := by rw [hpn]; rfl
          refine MV.iload dX12_last_84 rfl ?_
          refine MV.iload_n dX12_last_86 rfl ?_
          refine MV.icmp_lt 107 dX12_last_87 (by decide) (fun c87 => ?_) (fun c87 => ?_)
          · skip
            have hls : lastB T c x i = false := by
              unfold lastB
              rw [decide_eq_false (fun z => z (by rw [← hsum]; exact c87))]
            have hst : bestF (lastB T c x) (i + 1) = bestF (lastB T c x) i := by rw [bestF, if_neg (fun z => by rw [hls] at z; cases z.2)]
            refine MV.iinc (v := 1) dX12_last_107 rfl (by decide) (by decide) rfl ?_
            refine MV.goto 23 dX12_last_110 (by decide) ?_
            refine MV.weak [some (.ref a), some (.int (x)), some (.int (bestF (lastB T c x) (i + 1))), some (.int (nI (i + 1))), none, none] (by simp [leL, sto1, sto2, k2c, nI_1, hst]) ?_
            exact ih (i + 1) (by omega)
          · skip
            have h87 : ¬ sumSet c (nI i) (nat (T.1.1 0)) < x := by rw [← hsum]; exact c87
            have hls : lastB T c x i = true := by
              unfold lastB
              rw [decide_eq_true h87]
            refine MV.iload_n dX12_last_90 rfl ?_
            refine MV.if_lt 105 dX12_last_91 (by decide) (fun c91 => ?_) (fun c91 => ?_)
            · skip
              have hfew : fewB (nI i) (bestF (lastB T c x) i) = true := by
                unfold fewB
                rw [decide_eq_true c91, Bool.true_or]
              have hst : bestF (lastB T c x) (i + 1) = nI i := by rw [bestF, if_pos ⟨hfew, hls⟩]
              refine MV.iload_n dX12_last_105 rfl ?_
              refine MV.istore_n dX12_last_106 (by decide) rfl ?_
              refine MV.iinc (v := 1) dX12_last_107 rfl (by decide) (by decide) rfl ?_
              refine MV.goto 23 dX12_last_110 (by decide) ?_
              refine MV.weak [some (.ref a), some (.int (x)), some (.int (bestF (lastB T c x) (i + 1))), some (.int (nI (i + 1))), none, none] (by simp [leL, sto1, sto2, k2c, nI_1, hst]) ?_
              exact ih (i + 1) (by omega)
            · skip
              obtain ⟨b, hb1, hb2⟩ := (bestF_in (lastB T c x) i).resolve_left (fun z => c91 (by rw [z]; decide))
              refine MV.iload_n dX12_last_94 rfl ?_
              refine MV.cS1 yoX12_bitsOf ml_X12_356 st_X12_bitsOf dX12_last_95 (Nat.le_of_ble_eq_true rfl) (by omega) rfl (Nat.le_of_ble_eq_true rfl) (fun h H => bitsOf_V (by omega)) ?_
              refine MV.eqi (bcI (nI i)) (by rw [(bc64 i (by omega)).1, (bc64 i (by omega)).2]) ?_
              refine MV.iload_n dX12_last_98 rfl ?_
              refine MV.cS1 yoX12_bitsOf ml_X12_356 st_X12_bitsOf dX12_last_99 (Nat.le_of_ble_eq_true rfl) (by omega) rfl (Nat.le_of_ble_eq_true rfl) (fun h H => bitsOf_V (by omega)) ?_
              refine MV.eqi (bcI (bestF (lastB T c x) i)) (by rw [hb2, (bc64 b (by omega)).1, (bc64 b (by omega)).2]) ?_
              refine MV.icmp_ge 107 dX12_last_102 (by decide) (fun c102 => ?_) (fun c102 => ?_)
              · skip
                have hfew : fewB (nI i) (bestF (lastB T c x) i) = false := by
                  unfold fewB
                  rw [decide_eq_false c91, Bool.false_or, decide_eq_false (Int32.not_lt.mpr c102)]
                have hst : bestF (lastB T c x) (i + 1) = bestF (lastB T c x) i := by rw [bestF, if_neg (fun z => by rw [hfew] at z; cases z.1)]
                refine MV.iinc (v := 1) dX12_last_107 rfl (by decide) (by decide) rfl ?_
                refine MV.goto 23 dX12_last_110 (by decide) ?_
                refine MV.weak [some (.ref a), some (.int (x)), some (.int (bestF (lastB T c x) (i + 1))), some (.int (nI (i + 1))), none, none] (by simp [leL, sto1, sto2, k2c, nI_1, hst]) ?_
                exact ih (i + 1) (by omega)
              · skip
                have hfew : fewB (nI i) (bestF (lastB T c x) i) = true := by
                  unfold fewB
                  rw [decide_eq_true (Int32.not_le.mp c102), Bool.or_true]
                have hst : bestF (lastB T c x) (i + 1) = nI i := by rw [bestF, if_pos ⟨hfew, hls⟩]
                refine MV.iload_n dX12_last_105 rfl ?_
                refine MV.istore_n dX12_last_106 (by decide) rfl ?_
                refine MV.iinc (v := 1) dX12_last_107 rfl (by decide) (by decide) rfl ?_
                refine MV.goto 23 dX12_last_110 (by decide) ?_
                refine MV.weak [some (.ref a), some (.int (x)), some (.int (bestF (lastB T c x) (i + 1))), some (.int (nI (i + 1))), none, none] (by simp [leL, sto1, sto2, k2c, nI_1, hst]) ?_
                exact ih (i + 1) (by omega)
        have hin : ∀ (j2 p : Nat), p + j2 = nat (T.1.1 0) → MV MX12_last (d, 0, 0, n0, κ) a h0 (mI s 0 0) 41 [some (.ref a), some (.int (x)), some (.int (bestF (lastB T c x) i)), some (.int (nI i)), some (.int (sumI (fun p => if (nI i >>> (nI p &&& 31)) &&& 1 = 0 then 0 else cLeft c p) p)), some (.int (nI p))] [] (fun v s' => v = some (.int (aLast T c x)) ∧ frX s s') := by
          intro j2
          induction j2 with
          | zero =>
            intro p hpj
            refine MV.iload dX12_last_41 rfl ?_
            refine MV.aload_n dX12_last_43 rfl ?_
            refine MV.getf 3 fl_X12_13 dX12_last_44 (by decide) rfl ?_
            refine MV.iconst (v := nI 0) dX12_last_47 (by decide) ?_
            refine MV.ald C12_in3 dX12_last_48 (rfl) (by omega) (by decide) ?_
            refine MV.icmp_ge 84 dX12_last_49 (by decide) (fun _ => ?_) (fun z => absurd (by rw [hn0]; exact nI_le (by omega) (by omega)) z)
            exact h84 (by omega)
          | succ j2 ih2 =>
            intro p hpj
            refine MV.iload dX12_last_41 rfl ?_
            refine MV.aload_n dX12_last_43 rfl ?_
            refine MV.getf 3 fl_X12_13 dX12_last_44 (by decide) rfl ?_
            refine MV.iconst (v := nI 0) dX12_last_47 (by decide) ?_
            refine MV.ald C12_in3 dX12_last_48 (rfl) (by omega) (by decide) ?_
            refine MV.icmp_ge 84 dX12_last_49 (by decide) (fun z => absurd z (by rw [hn0]; exact nI_ge (by omega) (by omega))) (fun _ => ?_)
            refine MV.iload dX12_last_52 rfl ?_
            refine MV.iload_n dX12_last_54 rfl ?_
            refine MV.iload dX12_last_55 rfl ?_
            refine MV.ishr dX12_last_57 ?_
            refine MV.iconst (v := 1) dX12_last_58 (by decide) ?_
            refine MV.iand dX12_last_59 ?_
            refine MV.iconst (v := 1) dX12_last_60 (by decide) ?_
            refine MV.icmp_ne 74 dX12_last_61 (by decide) (fun c61 => ?_) (fun c61 => ?_)
            · skip
              have hb : (nI i >>> (nI p &&& 31)) &&& 1 = 0 := Classical.byContradiction fun z => c61 ((and1_iff _).mpr z)
              have hst : sumI (fun p => if (nI i >>> (nI p &&& 31)) &&& 1 = 0 then 0 else cLeft c p) (p + 1) = sumI (fun p => if (nI i >>> (nI p &&& 31)) &&& 1 = 0 then 0 else cLeft c p) p + 0 := by rw [sumI, if_pos hb]
              refine MV.iconst (v := 0) dX12_last_74 (by decide) ?_
              refine MV.iadd dX12_last_75 ?_
              refine MV.istore dX12_last_76 (by decide) rfl ?_
              refine MV.iinc (v := 1) dX12_last_78 rfl (by decide) (by decide) rfl ?_
              refine MV.goto 41 dX12_last_81 (by decide) ?_
              refine MV.weak [some (.ref a), some (.int (x)), some (.int (bestF (lastB T c x) i)), some (.int (nI i)), some (.int (sumI (fun p => if (nI i >>> (nI p &&& 31)) &&& 1 = 0 then 0 else cLeft c p) (p + 1))), some (.int (nI (p + 1)))] (by simp [leL, sto1, sto2, k2c, nI_1, hst]) ?_
              exact ih2 (p + 1) (by omega)
            · skip
              have hb : ¬ (nI i >>> (nI p &&& 31)) &&& 1 = 0 := (and1_iff _).mp c61
              have hst : sumI (fun p => if (nI i >>> (nI p &&& 31)) &&& 1 = 0 then 0 else cLeft c p) (p + 1) = sumI (fun p => if (nI i >>> (nI p &&& 31)) &&& 1 = 0 then 0 else cLeft c p) p + cLeft c p := by rw [sumI, if_neg hb]
              refine MV.aload_n dX12_last_64 rfl ?_
              refine MV.iconst (v := nI 0) dX12_last_65 (by decide) ?_
              refine MV.iload dX12_last_66 rfl ?_
              refine MV.cV2 yoX12_leftOf ml_X12_353 im_X12_leftOf se_X12_leftOf dX12_last_68 rfl (Nat.le_of_ble_eq_true rfl) (by omega) rfl (Nat.le_of_ble_eq_true rfl) (mLeft_M (r := 0) (by omega) (by decide) (by omega)) (MV.rdK ?_)
              refine MV.eqi (cLeft c p) ((hR.2.1.left hR.1 (by omega)).1) ?_
              refine MV.goto 75 dX12_last_71 (by decide) ?_
              refine MV.iadd dX12_last_75 ?_
              refine MV.istore dX12_last_76 (by decide) rfl ?_
              refine MV.iinc (v := 1) dX12_last_78 rfl (by decide) (by decide) rfl ?_
              refine MV.goto 41 dX12_last_81 (by decide) ?_
              refine MV.weak [some (.ref a), some (.int (x)), some (.int (bestF (lastB T c x) i)), some (.int (nI i)), some (.int (sumI (fun p => if (nI i >>> (nI p &&& 31)) &&& 1 = 0 then 0 else cLeft c p) (p + 1))), some (.int (nI (p + 1)))] (by simp [leL, sto1, sto2, k2c, nI_1, hst]) ?_
              exact ih2 (p + 1) (by omega)
        refine MV.iload_n dX12_last_23 rfl ?_
        refine MV.iconst (v := 1) dX12_last_24 (by decide) ?_
        refine MV.aload_n dX12_last_25 rfl ?_
        refine MV.getf 3 fl_X12_13 dX12_last_26 (by decide) rfl ?_
        refine MV.iconst (v := nI 0) dX12_last_29 (by decide) ?_
        refine MV.ald C12_in3 dX12_last_30 (rfl) (by omega) (by decide) ?_
        refine MV.ishl dX12_last_31 ?_
        refine MV.eqi (nI (2 ^ nat (T.1.1 0))) (by rw [show (mI s 0 0).2.1 3 0 = nI (nat (T.1.1 0)) from hn0]; exact (two_n _ n6).1) ?_
        refine MV.icmp_ge 113 dX12_last_32 (by decide) (fun z => absurd z (nI_ge (by omega) (by omega))) (fun _ => ?_)
        refine MV.iconst (v := 0) dX12_last_35 (by decide) ?_
        refine MV.istore dX12_last_36 (by decide) rfl ?_
        refine MV.iconst (v := nI 0) dX12_last_38 (by decide) ?_
        refine MV.istore dX12_last_39 (by decide) rfl ?_
        refine MV.weak [some (.ref a), some (.int (x)), some (.int (bestF (lastB T c x) i)), some (.int (nI i)), some (.int (sumI (fun p => if (nI i >>> (nI p &&& 31)) &&& 1 = 0 then 0 else cLeft c p) 0)), some (.int (nI 0))] (by simp [leL, sto1, sto2, k2c]; try rfl) ?_
        exact hin (nat (T.1.1 0)) 0 (by omega)
    · skip
      have q13 : 360 < x := Int32.not_le.mp c13
      have hA : aLast T c x = -1 := by rw [aLast, if_neg (fun z => z.2 q13)]
      refine MV.iconst (v := (-1)) dX12_last_16 (by decide) ?_
      refine MV.iret dX12_last_17 rfl ?_
      exact ⟨by rw [hA], frX.z⟩
theorem lN_int {a : Nat} (h : a < 2 ^ 63) : (lN a).toInt = (a : Int) := lg_ofNat_toInt h
theorem lN_div {a b : Nat} (ha : a < 2 ^ 62) (h0 : 0 < b) (hb : b < 2 ^ 62) : lN a / lN b = lN (a / b) := by
  apply Int64.toInt_inj.mp
  have hq : a / b ≤ a := Nat.div_le_self a b
  have h1 : ((a : Int)) / ((b : Int)) = ((a / b : Nat) : Int) := (Int.natCast_ediv a b).symm
  rw [Int64.toInt_div, lN_int (by omega), lN_int (by omega), lN_int (by omega), Int.tdiv_eq_ediv_of_nonneg (by omega), h1]
  generalize a / b = q at *
  apply Int.bmod_eq_of_le <;> omega
theorem lN_rem {a b : Nat} (ha : a < 2 ^ 62) (h0 : 0 < b) (hb : b < 2 ^ 62) : lN a - lN a / lN b * lN b = lN (a % b) := by
  rw [lN_div ha h0 hb, lN_mul, lN_sub (Nat.div_mul_le_self a b)]
  congr 1
  have := Nat.div_add_mod a b
  rw [Nat.mul_comm] at this
  omega
theorem lN_ne0 {b : Nat} (h : b < 2 ^ 62) : lN b = 0 ↔ b = 0 := by
  constructor
  · intro z
    have := congrArg Int64.toInt z
    rw [lN_int (by omega)] at this
    have e0 : (0 : Int64).toInt = 0 := by decide
    omega
  · intro z; rw [z]; rfl
def calmN (D n : Nat) (w : Int32) : Nat := ((if w = 0 then 100 - D else 100) / Nat.gcd (100 - D) 100) ^ n
set_option maxRecDepth 100000 in
theorem calm_eq : ∀ D, D < 101 → ∀ n, n < 7 → (100 - D) ^ n / Nat.gcd ((100 - D) ^ n) (100 ^ n) = ((100 - D) / Nat.gcd (100 - D) 100) ^ n ∧ 100 ^ n / Nat.gcd ((100 - D) ^ n) (100 ^ n) = (100 / Nat.gcd (100 - D) 100) ^ n ∧ 0 < Nat.gcd ((100 - D) ^ n) (100 ^ n) ∧ Nat.gcd ((100 - D) ^ n) (100 ^ n) < 2 ^ 62 ∧ (100 - D) ^ n < 2 ^ 62 ∧ 100 ^ n < 2 ^ 62 := by decide +kernel
def aCalm (T : Tx) (x w : Int32) : Int64 := if ¬ x < 0 ∧ ¬ 6 < x ∧ ¬ w < 0 ∧ ¬ 1 < w then lN (calmN (nat (T.1.1 10)) (nat x) w) else -1
theorem V.eql {Y : Yd} {Z : Zd} {ca sl : Nat} {h : Hp} {pc : Nat} {L : List (Option Value)} {rest : List Value} {P : Option Value → Hp → Prop} {x : Int64} (y : Int64) (e : x = y) (k : V Y Z ca sl h pc L (.long y :: rest) P) : V Y Z ca sl h pc L (.long x :: rest) P := by
  rw [e]
  exact k
set_option maxRecDepth 100000 in
theorem common_V {d n0 : Nat} {κ : Kd} (hd : 1 ≤ d) {h : Hp} {A B : Nat} (hA : A < 2 ^ 62) (hB : B < 2 ^ 62) : V MX12_common (d, 0, 0, n0, κ) 0 0 h 0 [some (.long (lN A)), none, some (.long (lN B)), none, none, none, none, none, none, none] [] (Rd h (.long (lN (Nat.gcd A B)))) := by
  have hL : ∀ (b0 a0 : Nat), a0 < 2 ^ 62 → b0 < 2 ^ 62 → Nat.gcd a0 b0 = Nat.gcd A B → V MX12_common (d, 0, 0, n0, κ) 0 0 h 6 [some (.long (lN A)), none, some (.long (lN B)), none, some (.long (lN a0)), none, some (.long (lN b0)), none, none, none] [] (Rd h (.long (lN (Nat.gcd A B)))) := by
    intro b0
    induction b0 using Nat.strongRecOn with
    | ind b0 ih =>
      intro a0 ha hb hg
      by_cases hb0 : b0 = 0
      · skip
        refine V.lload dX12_common_6 rfl ?_
        refine V.lconst (v := 0) dX12_common_8 (by decide) ?_
        refine V.lcmp dX12_common_9 ?_
        refine V.if_eq 31 dX12_common_10 (by decide) (fun _ => ?_) (fun z => absurd (by rw [hb0]; decide) z)
        refine V.lload dX12_common_31 rfl ?_
        refine V.lret dX12_common_33 rfl ?_
        exact ⟨by rw [← hg, hb0, Nat.gcd_zero_right], rfl⟩
      · skip
        refine V.lload dX12_common_6 rfl ?_
        refine V.lconst (v := 0) dX12_common_8 (by decide) ?_
        refine V.lcmp dX12_common_9 ?_
        refine V.if_eq 31 dX12_common_10 (by decide) (fun z => absurd z (fun z => hb0 ((lN_ne0 hb).mp (by simpa [lg_cmp_eq] using z)))) (fun _ => ?_)
        refine V.lload dX12_common_13 rfl ?_
        refine V.lload dX12_common_15 rfl ?_
        refine V.lrem dX12_common_17 (fun z => hb0 ((lN_ne0 hb).mp z)) ?_
        refine V.eql (lN (a0 % b0)) (lN_rem ha (Nat.pos_of_ne_zero hb0) hb) ?_
        refine V.lstore dX12_common_18 (by decide) rfl ?_
        refine V.lload dX12_common_20 rfl ?_
        refine V.lstore dX12_common_22 (by decide) rfl ?_
        refine V.lload dX12_common_24 rfl ?_
        refine V.lstore dX12_common_26 (by decide) rfl ?_
        refine V.goto 6 dX12_common_28 (by decide) ?_
        refine V.weak [some (.long (lN A)), none, some (.long (lN B)), none, some (.long (lN b0)), none, some (.long (lN (a0 % b0))), none, none, none] (by simp [leL, sto1, sto2, k2c]) ?_
        exact ih (a0 % b0) (Nat.mod_lt _ (Nat.pos_of_ne_zero hb0)) b0 hb (Nat.lt_of_lt_of_le (Nat.mod_lt _ (Nat.pos_of_ne_zero hb0)) (Nat.le_of_lt hb)) (by rw [← hg, Nat.gcd_comm a0 b0, Nat.gcd_rec b0 a0, Nat.gcd_comm])
  refine V.lload_n dX12_common_0 rfl ?_
  refine V.lstore dX12_common_1 (by decide) rfl ?_
  refine V.lload_n dX12_common_3 rfl ?_
  refine V.lstore dX12_common_4 (by decide) rfl ?_
  refine V.weak [some (.long (lN A)), none, some (.long (lN B)), none, some (.long (lN A)), none, some (.long (lN B)), none, none, none] (by simp [leL, sto1, sto2, k2c]) ?_
  exact hL B A hA hB rfl
set_option maxRecDepth 100000 in
set_option maxHeartbeats 2000000 in
theorem calm_M {d n0 a : Nat} {κ : Kd} {h0 : Hp} (hd : 3 ≤ d) {T : Tx} {s : St} {x w : Int32} {D : Nat} (hD : D ≤ 100) (hD1 : T.1.1 10 = nI D) (hT : relT T s.2.1) : MV MX12_calm (d, 0, 0, n0, κ) a h0 s 0 [some (.ref a), some (.int (x)), some (.int (w)), none, none, none, none, none, none] [] (fun v s' => v = some (.long (aCalm T x w)) ∧ frX s s') := by
  have hD5 : (mI s 0 0).2.1 3 5 = nI D := hT.2.2.2.2.2.1.1.symm.trans hD1
  have hDn : nat (T.1.1 10) = D := by rw [hD1]; exact nI_clamp (by omega)
  refine MV.aload_n dX12_calm_0 rfl ?_
  refine MV.iconst (v := 0) dX12_calm_1 (by decide) ?_
  refine MV.putf 0 fl_X12_148 dX12_calm_2 (by decide) rfl (rfl) (rfl) C12_s0 ?_
  refine MV.iload_n dX12_calm_5 rfl ?_
  refine MV.if_lt 24 dX12_calm_6 (by decide) (fun c6 => ?_) (fun c6 => ?_)
  · skip
    have hA : aCalm T x w = -1 := by rw [aCalm, if_neg (fun z => z.1 c6)]
    refine MV.ldc2 kc_X12_470 dX12_calm_24 ?_
    refine MV.lret dX12_calm_27 rfl ?_
    exact ⟨by rw [hA], frX.z⟩
  · skip
    refine MV.iload_n dX12_calm_9 rfl ?_
    refine MV.bipush (v := 6) dX12_calm_10 (by decide) ?_
    refine MV.icmp_gt 24 dX12_calm_12 (by decide) (fun c12 => ?_) (fun c12 => ?_)
    · skip
      have hA : aCalm T x w = -1 := by rw [aCalm, if_neg (fun z => z.2.1 c12)]
      refine MV.ldc2 kc_X12_470 dX12_calm_24 ?_
      refine MV.lret dX12_calm_27 rfl ?_
      exact ⟨by rw [hA], frX.z⟩
    · skip
      have q12 : ¬ 6 < x := c12
      refine MV.iload_n dX12_calm_15 rfl ?_
      refine MV.if_lt 24 dX12_calm_16 (by decide) (fun c16 => ?_) (fun c16 => ?_)
      · skip
        have hA : aCalm T x w = -1 := by rw [aCalm, if_neg (fun z => z.2.2.1 c16)]
        refine MV.ldc2 kc_X12_470 dX12_calm_24 ?_
        refine MV.lret dX12_calm_27 rfl ?_
        exact ⟨by rw [hA], frX.z⟩
      · skip
        refine MV.iload_n dX12_calm_19 rfl ?_
        refine MV.iconst (v := 1) dX12_calm_20 (by decide) ?_
        refine MV.icmp_le 28 dX12_calm_21 (by decide) (fun c21 => ?_) (fun c21 => ?_)
        · skip
          have q21 : ¬ 1 < w := Int32.not_lt.mpr c21
          refine MV.lconst (v := 1) dX12_calm_28 (by decide) ?_
          refine MV.lstore_n dX12_calm_29 (by decide) rfl ?_
          refine MV.lconst (v := 1) dX12_calm_30 (by decide) ?_
          refine MV.lstore dX12_calm_31 (by decide) rfl ?_
          refine MV.iconst (v := nI 0) dX12_calm_33 (by decide) ?_
          refine MV.istore dX12_calm_34 (by decide) rfl ?_
          obtain ⟨n, hn31, rfl⟩ := nI_of c6
          have hn6 : n ≤ 6 := Nat.not_lt.mp fun z => q12 (nI_lt (a := 6) z hn31)
          have hnn : nat (nI n) = n := nI_clamp hn31
          obtain ⟨q1, q2, q3, q4, q5, q6⟩ := calm_eq D (by omega) n (by omega)
          have hL : ∀ (j i : Nat), i + j = n → MV MX12_calm (d, 0, 0, n0, κ) a h0 (mI s 0 0) 36 [some (.ref a), some (.int (nI n)), some (.int (w)), some (.long (lN ((100 - D) ^ i))), none, some (.long (lN (100 ^ i))), none, some (.int (nI i)), none] [] (fun v s' => v = some (.long (aCalm T (nI n) w)) ∧ frX s s') := by
            intro j
            induction j with
            | zero =>
              intro i hij
              have hin : n = i := by omega
              subst hin
              refine MV.iload dX12_calm_36 rfl ?_
              refine MV.iload_n dX12_calm_38 rfl ?_
              refine MV.icmp_ge 70 dX12_calm_39 (by decide) (fun _ => ?_) (fun z => absurd (nI_le (by omega) (by omega)) z)
              refine MV.lload_n dX12_calm_70 rfl ?_
              refine MV.lload dX12_calm_71 rfl ?_
              refine MV.cS2 yoX12_common ml_X12_508 st_X12_common dX12_calm_73 (Nat.le_of_ble_eq_true rfl) (by omega) rfl (Nat.le_of_ble_eq_true rfl) (fun h H => common_V (by omega) q5 q6) ?_
              refine MV.lstore dX12_calm_76 (by decide) rfl ?_
              refine MV.iload_n dX12_calm_78 rfl ?_
              refine MV.if_ne 89 dX12_calm_79 (by decide) (fun c79 => ?_) (fun c79 => ?_)
              · skip
                have hcn : calmN D n w = (100 / Nat.gcd (100 - D) 100) ^ n := by rw [calmN, if_neg c79]
                refine MV.lload dX12_calm_89 rfl ?_
                refine MV.lload dX12_calm_91 rfl ?_
                refine MV.ldiv dX12_calm_93 (fun z => absurd ((lN_ne0 q4).mp z) (by omega)) ?_
                first
                | refine MV.eql (lN (calmN D n w)) (by rw [lN_div q5 q3 q4, q1, ← hcn]) ?_
                | refine MV.eql (lN (calmN D n w)) (by rw [lN_div q6 q3 q4, q2, ← hcn]) ?_
                refine MV.lret dX12_calm_94 rfl ?_
                exact ⟨by rw [aCalm, if_pos ⟨c6, q12, c16, q21⟩, hnn, hDn], frX.z⟩
              · skip
                have hcn : calmN D n w = ((100 - D) / Nat.gcd (100 - D) 100) ^ n := by rw [calmN, if_pos c79]
                refine MV.lload_n dX12_calm_82 rfl ?_
                refine MV.lload dX12_calm_83 rfl ?_
                refine MV.ldiv dX12_calm_85 (fun z => absurd ((lN_ne0 q4).mp z) (by omega)) ?_
                refine MV.goto 94 dX12_calm_86 (by decide) ?_
                first
                | refine MV.eql (lN (calmN D n w)) (by rw [lN_div q5 q3 q4, q1, ← hcn]) ?_
                | refine MV.eql (lN (calmN D n w)) (by rw [lN_div q6 q3 q4, q2, ← hcn]) ?_
                refine MV.lret dX12_calm_94 rfl ?_
                exact ⟨by rw [aCalm, if_pos ⟨c6, q12, c16, q21⟩, hnn, hDn], frX.z⟩
            | succ j ih =>
              intro i hij
              refine MV.iload dX12_calm_36 rfl ?_
              refine MV.iload_n dX12_calm_38 rfl ?_
              refine MV.icmp_ge 70 dX12_calm_39 (by decide) (fun z => absurd z (nI_ge (by omega) (by omega))) (fun _ => ?_)
              refine MV.lload_n dX12_calm_42 rfl ?_
              refine MV.ldc2 kc_X12_506 dX12_calm_43 ?_
              refine MV.aload_n dX12_calm_46 rfl ?_
              refine MV.getf 3 fl_X12_13 dX12_calm_47 (by decide) rfl ?_
              refine MV.iconst (v := nI 5) dX12_calm_50 (by decide) ?_
              skip
              refine MV.ald C12_in3 dX12_calm_51 (rfl) (by omega) (by decide) ?_
              refine MV.eqi (nI D) hD5 ?_
              refine MV.i2l dX12_calm_52 ?_
              refine MV.eql (lN D) (nI_l (by omega)) ?_
              refine MV.lsub dX12_calm_53 ?_
              refine MV.eql (lN (100 - D)) (lN_sub (a := 100) hD) ?_
              refine MV.lmul dX12_calm_54 ?_
              refine MV.eql (lN ((100 - D) ^ (i + 1))) (by rw [lN_mul, ← Nat.pow_succ]) ?_
              refine MV.lstore_n dX12_calm_55 (by decide) rfl ?_
              refine MV.lload dX12_calm_56 rfl ?_
              refine MV.ldc2 kc_X12_506 dX12_calm_58 ?_
              refine MV.lmul dX12_calm_61 ?_
              refine MV.eql (lN (100 ^ (i + 1))) (by rw [show (100 : Int64) = lN 100 by decide, lN_mul, ← Nat.pow_succ]) ?_
              refine MV.lstore dX12_calm_62 (by decide) rfl ?_
              refine MV.iinc (v := 1) dX12_calm_64 rfl (by decide) (by decide) rfl ?_
              refine MV.goto 36 dX12_calm_67 (by decide) ?_
              refine MV.weak [some (.ref a), some (.int (nI n)), some (.int (w)), some (.long (lN ((100 - D) ^ (i + 1)))), none, some (.long (lN (100 ^ (i + 1)))), none, some (.int (nI (i + 1))), none] (by simp [leL, sto1, sto2, k2c, nI_1]) ?_
              exact ih (i + 1) (by omega)
          exact hL n 0 (by omega)
        · skip
          have hA : aCalm T x w = -1 := by rw [aCalm, if_neg (fun z => z.2.2.2 (Int32.not_le.mp c21))]
          refine MV.ldc2 kc_X12_470 dX12_calm_24 ?_
          refine MV.lret dX12_calm_27 rfl ?_
          exact ⟨by rw [hA], frX.z⟩
