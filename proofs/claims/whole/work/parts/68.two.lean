/-! The model: questions of two -/
theorem noTwo {T : Tx} {f : Nat → Nat → Int32} {x y : Int32} (hT : relT T f) (h : bI (isManB (f 3 0) x && isManB (f 3 0) y && decide (¬ x = y)) = 0) : ¬ areTwoB (T.1.1 0) x y = true := by
  unfold areTwoB
  rw [hT.1.2.1, bI_f h]
  decide
theorem yesTwo {T : Tx} {f : Nat → Nat → Int32} {x y : Int32} (hT : relT T f) (h : ¬ bI (isManB (f 3 0) x && isManB (f 3 0) y && decide (¬ x = y)) = 0) : areTwoB (T.1.1 0) x y = true ∧ ∃ p q, x = nI p ∧ y = nI q ∧ p < nat (T.1.1 0) ∧ q < nat (T.1.1 0) ∧ p < 6 ∧ q < 6 ∧ nat (nI p) = p ∧ nat (nI q) = q ∧ ¬ p = q := by
  have h1 := bI_t h
  refine ⟨by unfold areTwoB; rw [hT.1.2.1]; exact h1, ?_⟩
  rw [Bool.and_eq_true, Bool.and_eq_true, decide_eq_true_eq] at h1
  obtain ⟨p, rfl, p1, p2⟩ := isMan_of hT h1.1.1
  obtain ⟨q, rfl, q1, q2⟩ := isMan_of hT h1.1.2
  exact ⟨p, q, rfl, rfl, p1, q1, p2, q2, nI_clamp (by omega), nI_clamp (by omega), fun z => h1.2 (by rw [z])⟩
def timesF (f : Nat → Int32) : Nat → Int64
  | 0 => 0
  | k + 1 => timesF f k ||| (if f (k + 1) = 0 then (0 : Int64) else (1 : Int64) <<< ((nI (k + 1)).toInt64 &&& 63))
def aTimes (T : Tx) (c : St) (x y : Int32) : Int64 := if areTwoB (T.1.1 0) x y = true then timesF (pairF (cLeft c (nat x)) (cLeft c (nat y))) 60 else -1
def aLightings (T : Tx) (c : St) (x y t : Int32) : Int32 := if areTwoB (T.1.1 0) x y = true ∧ ¬ t < 1 ∧ ¬ 60 < t then (if pairF (cLeft c (nat x)) (cLeft c (nat y)) (nat t) = 0 then -2 else pairF (cLeft c (nat x)) (cLeft c (nat y)) (nat t)) else -1
set_option maxRecDepth 100000 in
set_option maxHeartbeats 2000000 in
theorem lays_M {d n0 a : Nat} {κ : Kd} {h0 : Hp} (hd : 4 ≤ d) {T : Tx} {s c : St} {p q A B : Nat} (hR : Rm T s 0 c) (hp : p < nat (T.1.1 0)) (hq : q < nat (T.1.1 0)) (hp6 : p < 6) (hq6 : q < 6) (hA : cLeft c p = nI A) (hB : cLeft c q = nI B) (hA60 : A ≤ 60) (hB60 : B ≤ 60) : MV MX12_lays (d, 0, 0, n0, κ) a h0 s 0 [some (.ref a), some (.int (nI p)), some (.int (nI q)), none, none, none, none, none, none] [] (fun v s' => v = none ∧ relE (pairF (nI A) (nI B)) (s'.2.1 50) ∧ frE s s') := by
  have h39 : ∀ s2 : St, frE s s2 → (∀ k, k < 61 → s2.2.1 50 k = -1) → MV MX12_lays (d, 0, 0, n0, κ) a h0 s2 39 [some (.ref a), none, none, some (.int (nI A)), some (.int (nI B)), none, none, none, none] [] (fun v s' => v = none ∧ relE (pairF (nI A) (nI B)) (s'.2.1 50) ∧ frE s s') := by
    intro s2 f2 hz
    have hE0 : relE (fun _ => 0) (s2.2.1 50) := fun k hk => ⟨by rw [hz k hk]; rfl, okN.of (n := 0) rfl (by decide) (by decide)⟩
    refine MV.iconst (v := nI 0) dX12_lays_39 (by decide) ?_
    refine MV.istore dX12_lays_40 (by decide) rfl ?_
    refine MV.iload dX12_lays_42 rfl ?_
    refine MV.iconst (v := nI 2) dX12_lays_44 (by decide) ?_
    refine MV.icmp_gt 183 dX12_lays_45 (by decide) (fun z => absurd z (show ¬ nI 2 < nI 0 by decide)) (fun _ => ?_)
    refine MV.iconst (v := nI 0) dX12_lays_48 (by decide) ?_
    refine MV.istore dX12_lays_49 (by decide) rfl ?_
    refine MV.iload dX12_lays_51 rfl ?_
    refine MV.iconst (v := nI 2) dX12_lays_53 (by decide) ?_
    refine MV.icmp_gt 177 dX12_lays_54 (by decide) (fun z => absurd z (show ¬ nI 2 < nI 0 by decide)) (fun _ => ?_)
    refine MV.weak [some (.ref a), none, none, some (.int (nI A)), some (.int (nI B)), some (.int (nI 0)), some (.int (nI 0)), none, none] (by simp [leL, sto1, sto2, k2c]; try decide) ?_
    refine cell00_M (by omega) hE0 hA60 hB60 (fun s3 hE1 f3 => ?_)
    refine MV.iinc (v := 1) dX12_lays_171 rfl (by decide) (by decide) rfl ?_
    refine MV.goto 51 dX12_lays_174 (by decide) ?_
    refine MV.weak [some (.ref a), none, none, some (.int (nI A)), some (.int (nI B)), some (.int (nI 0)), some (.int (nI 1)), none, none] (by simp [leL, sto1, sto2, k2c]; try decide) ?_
    refine MV.iload dX12_lays_51 rfl ?_
    refine MV.iconst (v := nI 2) dX12_lays_53 (by decide) ?_
    refine MV.icmp_gt 177 dX12_lays_54 (by decide) (fun z => absurd z (show ¬ nI 2 < nI 1 by decide)) (fun _ => ?_)
    refine MV.weak [some (.ref a), none, none, some (.int (nI A)), some (.int (nI B)), some (.int (nI 0)), some (.int (nI 1)), none, none] (by simp [leL, sto1, sto2, k2c]; try decide) ?_
    refine cell01_M (by omega) hE1 hA60 hB60 (fun s4 hE2 f4 => ?_)
    refine MV.iinc (v := 1) dX12_lays_171 rfl (by decide) (by decide) rfl ?_
    refine MV.goto 51 dX12_lays_174 (by decide) ?_
    refine MV.weak [some (.ref a), none, none, some (.int (nI A)), some (.int (nI B)), some (.int (nI 0)), some (.int (nI 2)), none, none] (by simp [leL, sto1, sto2, k2c]; try decide) ?_
    refine MV.iload dX12_lays_51 rfl ?_
    refine MV.iconst (v := nI 2) dX12_lays_53 (by decide) ?_
    refine MV.icmp_gt 177 dX12_lays_54 (by decide) (fun z => absurd z (show ¬ nI 2 < nI 2 by decide)) (fun _ => ?_)
    refine MV.weak [some (.ref a), none, none, some (.int (nI A)), some (.int (nI B)), some (.int (nI 0)), some (.int (nI 2)), none, none] (by simp [leL, sto1, sto2, k2c]; try decide) ?_
    refine cell02_M (by omega) hE2 hA60 hB60 (fun s5 hE3 f5 => ?_)
    refine MV.iinc (v := 1) dX12_lays_171 rfl (by decide) (by decide) rfl ?_
    refine MV.goto 51 dX12_lays_174 (by decide) ?_
    refine MV.weak [some (.ref a), none, none, some (.int (nI A)), some (.int (nI B)), some (.int (nI 0)), some (.int (nI 3)), none, none] (by simp [leL, sto1, sto2, k2c]; try decide) ?_
    refine MV.iload dX12_lays_51 rfl ?_
    refine MV.iconst (v := nI 2) dX12_lays_53 (by decide) ?_
    refine MV.icmp_gt 177 dX12_lays_54 (by decide) (fun _ => ?_) (fun z => absurd (show nI 2 < nI 3 by decide) z)
    refine MV.iinc (v := 1) dX12_lays_177 rfl (by decide) (by decide) rfl ?_
    refine MV.goto 42 dX12_lays_180 (by decide) ?_
    refine MV.weak [some (.ref a), none, none, some (.int (nI A)), some (.int (nI B)), some (.int (nI 1)), none, none, none] (by simp [leL, sto1, sto2, k2c]; try decide) ?_
    refine MV.iload dX12_lays_42 rfl ?_
    refine MV.iconst (v := nI 2) dX12_lays_44 (by decide) ?_
    refine MV.icmp_gt 183 dX12_lays_45 (by decide) (fun z => absurd z (show ¬ nI 2 < nI 1 by decide)) (fun _ => ?_)
    refine MV.iconst (v := nI 0) dX12_lays_48 (by decide) ?_
    refine MV.istore dX12_lays_49 (by decide) rfl ?_
    refine MV.iload dX12_lays_51 rfl ?_
    refine MV.iconst (v := nI 2) dX12_lays_53 (by decide) ?_
    refine MV.icmp_gt 177 dX12_lays_54 (by decide) (fun z => absurd z (show ¬ nI 2 < nI 0 by decide)) (fun _ => ?_)
    refine MV.weak [some (.ref a), none, none, some (.int (nI A)), some (.int (nI B)), some (.int (nI 1)), some (.int (nI 0)), none, none] (by simp [leL, sto1, sto2, k2c]; try decide) ?_
    refine cell10_M (by omega) hE3 hA60 hB60 (fun s6 hE4 f6 => ?_)
    refine MV.iinc (v := 1) dX12_lays_171 rfl (by decide) (by decide) rfl ?_
    refine MV.goto 51 dX12_lays_174 (by decide) ?_
    refine MV.weak [some (.ref a), none, none, some (.int (nI A)), some (.int (nI B)), some (.int (nI 1)), some (.int (nI 1)), none, none] (by simp [leL, sto1, sto2, k2c]; try decide) ?_
    refine MV.iload dX12_lays_51 rfl ?_
    refine MV.iconst (v := nI 2) dX12_lays_53 (by decide) ?_
    refine MV.icmp_gt 177 dX12_lays_54 (by decide) (fun z => absurd z (show ¬ nI 2 < nI 1 by decide)) (fun _ => ?_)
    refine MV.weak [some (.ref a), none, none, some (.int (nI A)), some (.int (nI B)), some (.int (nI 1)), some (.int (nI 1)), none, none] (by simp [leL, sto1, sto2, k2c]; try decide) ?_
    refine cell11_M (by omega) hE4 hA60 hB60 (fun s7 hE5 f7 => ?_)
    refine MV.iinc (v := 1) dX12_lays_171 rfl (by decide) (by decide) rfl ?_
    refine MV.goto 51 dX12_lays_174 (by decide) ?_
    refine MV.weak [some (.ref a), none, none, some (.int (nI A)), some (.int (nI B)), some (.int (nI 1)), some (.int (nI 2)), none, none] (by simp [leL, sto1, sto2, k2c]; try decide) ?_
    refine MV.iload dX12_lays_51 rfl ?_
    refine MV.iconst (v := nI 2) dX12_lays_53 (by decide) ?_
    refine MV.icmp_gt 177 dX12_lays_54 (by decide) (fun z => absurd z (show ¬ nI 2 < nI 2 by decide)) (fun _ => ?_)
    refine MV.weak [some (.ref a), none, none, some (.int (nI A)), some (.int (nI B)), some (.int (nI 1)), some (.int (nI 2)), none, none] (by simp [leL, sto1, sto2, k2c]; try decide) ?_
    refine cell12_M (by omega) hE5 hA60 hB60 (fun s8 hE6 f8 => ?_)
    refine MV.iinc (v := 1) dX12_lays_171 rfl (by decide) (by decide) rfl ?_
    refine MV.goto 51 dX12_lays_174 (by decide) ?_
    refine MV.weak [some (.ref a), none, none, some (.int (nI A)), some (.int (nI B)), some (.int (nI 1)), some (.int (nI 3)), none, none] (by simp [leL, sto1, sto2, k2c]; try decide) ?_
    refine MV.iload dX12_lays_51 rfl ?_
    refine MV.iconst (v := nI 2) dX12_lays_53 (by decide) ?_
    refine MV.icmp_gt 177 dX12_lays_54 (by decide) (fun _ => ?_) (fun z => absurd (show nI 2 < nI 3 by decide) z)
    refine MV.iinc (v := 1) dX12_lays_177 rfl (by decide) (by decide) rfl ?_
    refine MV.goto 42 dX12_lays_180 (by decide) ?_
    refine MV.weak [some (.ref a), none, none, some (.int (nI A)), some (.int (nI B)), some (.int (nI 2)), none, none, none] (by simp [leL, sto1, sto2, k2c]; try decide) ?_
    refine MV.iload dX12_lays_42 rfl ?_
    refine MV.iconst (v := nI 2) dX12_lays_44 (by decide) ?_
    refine MV.icmp_gt 183 dX12_lays_45 (by decide) (fun z => absurd z (show ¬ nI 2 < nI 2 by decide)) (fun _ => ?_)
    refine MV.iconst (v := nI 0) dX12_lays_48 (by decide) ?_
    refine MV.istore dX12_lays_49 (by decide) rfl ?_
    refine MV.iload dX12_lays_51 rfl ?_
    refine MV.iconst (v := nI 2) dX12_lays_53 (by decide) ?_
    refine MV.icmp_gt 177 dX12_lays_54 (by decide) (fun z => absurd z (show ¬ nI 2 < nI 0 by decide)) (fun _ => ?_)
    refine MV.weak [some (.ref a), none, none, some (.int (nI A)), some (.int (nI B)), some (.int (nI 2)), some (.int (nI 0)), none, none] (by simp [leL, sto1, sto2, k2c]; try decide) ?_
    refine cell20_M (by omega) hE6 hA60 hB60 (fun s9 hE7 f9 => ?_)
    refine MV.iinc (v := 1) dX12_lays_171 rfl (by decide) (by decide) rfl ?_
    refine MV.goto 51 dX12_lays_174 (by decide) ?_
    refine MV.weak [some (.ref a), none, none, some (.int (nI A)), some (.int (nI B)), some (.int (nI 2)), some (.int (nI 1)), none, none] (by simp [leL, sto1, sto2, k2c]; try decide) ?_
    refine MV.iload dX12_lays_51 rfl ?_
    refine MV.iconst (v := nI 2) dX12_lays_53 (by decide) ?_
    refine MV.icmp_gt 177 dX12_lays_54 (by decide) (fun z => absurd z (show ¬ nI 2 < nI 1 by decide)) (fun _ => ?_)
    refine MV.weak [some (.ref a), none, none, some (.int (nI A)), some (.int (nI B)), some (.int (nI 2)), some (.int (nI 1)), none, none] (by simp [leL, sto1, sto2, k2c]; try decide) ?_
    refine cell21_M (by omega) hE7 hA60 hB60 (fun s10 hE8 f10 => ?_)
    refine MV.iinc (v := 1) dX12_lays_171 rfl (by decide) (by decide) rfl ?_
    refine MV.goto 51 dX12_lays_174 (by decide) ?_
    refine MV.weak [some (.ref a), none, none, some (.int (nI A)), some (.int (nI B)), some (.int (nI 2)), some (.int (nI 2)), none, none] (by simp [leL, sto1, sto2, k2c]; try decide) ?_
    refine MV.iload dX12_lays_51 rfl ?_
    refine MV.iconst (v := nI 2) dX12_lays_53 (by decide) ?_
    refine MV.icmp_gt 177 dX12_lays_54 (by decide) (fun z => absurd z (show ¬ nI 2 < nI 2 by decide)) (fun _ => ?_)
    refine MV.weak [some (.ref a), none, none, some (.int (nI A)), some (.int (nI B)), some (.int (nI 2)), some (.int (nI 2)), none, none] (by simp [leL, sto1, sto2, k2c]; try decide) ?_
    refine cell22_M (by omega) hE8 hA60 hB60 (fun s11 hE9 f11 => ?_)
    refine MV.iinc (v := 1) dX12_lays_171 rfl (by decide) (by decide) rfl ?_
    refine MV.goto 51 dX12_lays_174 (by decide) ?_
    refine MV.weak [some (.ref a), none, none, some (.int (nI A)), some (.int (nI B)), some (.int (nI 2)), some (.int (nI 3)), none, none] (by simp [leL, sto1, sto2, k2c]; try decide) ?_
    refine MV.iload dX12_lays_51 rfl ?_
    refine MV.iconst (v := nI 2) dX12_lays_53 (by decide) ?_
    refine MV.icmp_gt 177 dX12_lays_54 (by decide) (fun _ => ?_) (fun z => absurd (show nI 2 < nI 3 by decide) z)
    refine MV.iinc (v := 1) dX12_lays_177 rfl (by decide) (by decide) rfl ?_
    refine MV.goto 42 dX12_lays_180 (by decide) ?_
    refine MV.weak [some (.ref a), none, none, some (.int (nI A)), some (.int (nI B)), some (.int (nI 3)), none, none, none] (by simp [leL, sto1, sto2, k2c]; try decide) ?_
    refine MV.iload dX12_lays_42 rfl ?_
    refine MV.iconst (v := nI 2) dX12_lays_44 (by decide) ?_
    refine MV.icmp_gt 183 dX12_lays_45 (by decide) (fun _ => ?_) (fun z => absurd (show nI 2 < nI 3 by decide) z)
    refine MV.vret dX12_lays_183 rfl ?_
    exact ⟨rfl, hE9, (((((((((f2).tr f3).tr f4).tr f5).tr f6).tr f7).tr f8).tr f9).tr f10).tr f11⟩
  have hL : ∀ (j i : Nat) (s2 : St), i + j = 61 → frE s s2 → (∀ k, k < i → s2.2.1 50 k = -1) → MV MX12_lays (d, 0, 0, n0, κ) a h0 s2 18 [some (.ref a), none, none, some (.int (nI A)), some (.int (nI B)), some (.int (nI i)), none, none, none] [] (fun v s' => v = none ∧ relE (pairF (nI A) (nI B)) (s'.2.1 50) ∧ frE s s') := by
    intro j
    induction j with
    | zero =>
      intro i s2 hij f2 hz
      refine MV.weak [some (.ref a), none, none, some (.int (nI A)), some (.int (nI B)), some (.int (nI 61)), none, none, none] (by rw [show i = 61 by omega]; simp [leL]) ?_
      refine MV.iload dX12_lays_18 rfl ?_
      refine MV.bipush (v := nI 60) dX12_lays_20 (by decide) ?_
      refine MV.icmp_gt 39 dX12_lays_22 (by decide) (fun _ => ?_) (fun z => absurd (nI_lt (a := 60) (b := 61) (by omega) (by omega)) z)
      refine MV.weak [some (.ref a), none, none, some (.int (nI A)), some (.int (nI B)), none, none, none, none] (by simp [leL]) ?_
      exact h39 s2 f2 (fun k hk => hz k (by omega))
    | succ j ih =>
      intro i s2 hij f2 hz
      refine MV.iload dX12_lays_18 rfl ?_
      refine MV.bipush (v := nI 60) dX12_lays_20 (by decide) ?_
      refine MV.icmp_gt 39 dX12_lays_22 (by decide) (fun z => absurd z (nI_nlt (a := 60) (by omega) (by omega))) (fun _ => ?_)
      refine MV.aload_n dX12_lays_25 rfl ?_
      refine MV.getf 50 fl_X12_105 dX12_lays_26 (by decide) rfl ?_
      refine MV.iload dX12_lays_29 rfl ?_
      refine MV.iconst (v := (-1)) dX12_lays_31 (by decide) ?_
      refine MV.ast C12_in50 dX12_lays_32 (rfl) (by omega) (by decide) ?_
      refine MV.iinc (v := 1) dX12_lays_33 rfl (by decide) (by decide) rfl ?_
      refine MV.goto 18 dX12_lays_36 (by decide) ?_
      refine MV.weak [some (.ref a), none, none, some (.int (nI A)), some (.int (nI B)), some (.int (nI (i + 1))), none, none, none] (by simp [leL, sto1, sto2, k2c, nI_1]) ?_
      refine ih (i + 1) _ (by omega) (f2.tr frE.a) (fun k hk => ?_)
      rw [mA_at]
      by_cases e : k = i
      · rw [if_pos e]
      · rw [if_neg e]; exact hz k (by omega)
  refine MV.aload_n dX12_lays_0 rfl ?_
  refine MV.iconst (v := nI 0) dX12_lays_1 (by decide) ?_
  refine MV.iload_n dX12_lays_2 rfl ?_
  refine MV.cV2 yoX12_leftOf ml_X12_353 im_X12_leftOf se_X12_leftOf dX12_lays_3 rfl (Nat.le_of_ble_eq_true rfl) (by omega) rfl (Nat.le_of_ble_eq_true rfl) (mLeft_M (r := 0) (by omega) (by decide) hp6) (MV.rdK ?_)
  refine MV.eqi (nI A) (((hR.2.1.left hR.1 hp).1).trans hA) ?_
  refine MV.istore_n dX12_lays_6 (by decide) rfl ?_
  refine MV.aload_n dX12_lays_7 rfl ?_
  refine MV.iconst (v := nI 0) dX12_lays_8 (by decide) ?_
  refine MV.iload_n dX12_lays_9 rfl ?_
  refine MV.cV2 yoX12_leftOf ml_X12_353 im_X12_leftOf se_X12_leftOf dX12_lays_10 rfl (Nat.le_of_ble_eq_true rfl) (by omega) rfl (Nat.le_of_ble_eq_true rfl) (mLeft_M (r := 0) (by omega) (by decide) hq6) (MV.rdK ?_)
  refine MV.eqi (nI B) (((hR.2.1.left hR.1 hq).1).trans hB) ?_
  refine MV.istore dX12_lays_13 (by decide) rfl ?_
  refine MV.iconst (v := nI 0) dX12_lays_15 (by decide) ?_
  refine MV.istore dX12_lays_16 (by decide) rfl ?_
  refine MV.weak [some (.ref a), none, none, some (.int (nI A)), some (.int (nI B)), some (.int (nI 0)), none, none, none] (by simp [leL, sto1, sto2, k2c]; try decide) ?_
  exact hL 61 0 s (by omega) frE.rf (fun k hk => by omega)
set_option maxRecDepth 100000 in
set_option maxHeartbeats 2000000 in
theorem times_M {d n0 a : Nat} {κ : Kd} {h0 : Hp} (hd : 5 ≤ d) {T : Tx} {s c : St} (hqu : qui s) (hR : Rm T s 0 c) {x y : Int32} : MV MX12_times (d, 0, 0, n0, κ) a h0 s 0 [some (.ref a), some (.int (x)), some (.int (y)), none, none, none] [] (fun v s' => v = some (.long (aTimes T c x y)) ∧ frX s s') := by
  refine MV.aload_n dX12_times_0 rfl ?_
  refine MV.iconst (v := 0) dX12_times_1 (by decide) ?_
  refine MV.putf 0 fl_X12_148 dX12_times_2 (by decide) rfl (rfl) (rfl) C12_s0 ?_
  refine MV.aload_n dX12_times_5 rfl ?_
  refine MV.iload_n dX12_times_6 rfl ?_
  refine MV.iload_n dX12_times_7 rfl ?_
  refine MV.cV2 yoX12_areTwo ml_X12_456 im_X12_areTwo se_X12_areTwo dX12_times_8 rfl (Nat.le_of_ble_eq_true rfl) (by omega) rfl (Nat.le_of_ble_eq_true rfl) (areTwo_M (by omega)) (MV.rdK ?_)
  refine MV.if_ne 18 dX12_times_11 (by decide) (fun c11 => ?_) (fun c11 => ?_)
  · skip
    obtain ⟨htwo, p, q, rfl, rfl, hp, hq, hp6, hq6, hnp, hnq, hne⟩ := yesTwo hR.1 c11
    obtain ⟨A, hA, hA60⟩ := hR.2.2.left hp
    obtain ⟨B, hB, hB60⟩ := hR.2.2.left hq
    refine MV.aload_n dX12_times_18 rfl ?_
    refine MV.iload_n dX12_times_19 rfl ?_
    refine MV.iload_n dX12_times_20 rfl ?_
    refine MV.cV2 yoX12_lays ml_X12_472 im_X12_lays se_X12_lays dX12_times_21 rfl (Nat.le_of_ble_eq_true rfl) (by omega) rfl (Nat.le_of_ble_eq_true rfl) (lays_M (T := T) (c := c) (by omega) hR hp hq hp6 hq6 hA hB hA60 hB60) ?_
    rintro _ s2 ⟨rfl, hE, fE⟩
    have f2 : frX s s2 := frX.z.tr fE.X
    have hAn : aTimes T c (nI p) (nI q) = timesF (pairF (nI A) (nI B)) 60 := by rw [aTimes, if_pos htwo, hnp, hnq, hA, hB]
    rw [hAn]
    refine MV.lconst (v := 0) dX12_times_24 (by decide) ?_
    refine MV.lstore_n dX12_times_25 (by decide) rfl ?_
    refine MV.iconst (v := nI 1) dX12_times_26 (by decide) ?_
    refine MV.istore dX12_times_27 (by decide) rfl ?_
    refine MV.weak [some (.ref a), none, none, some (.long (timesF (pairF (nI A) (nI B)) 0)), none, some (.int (nI (0 + 1)))] (by simp [leL, sto1, sto2, k2c, timesF]) ?_
    suffices hL : ∀ (j i : Nat), i + j = 60 → MV MX12_times (d, 0, 0, n0, κ) a h0 s2 29 [some (.ref a), none, none, some (.long (timesF (pairF (nI A) (nI B)) i)), none, some (.int (nI (i + 1)))] [] (fun v s' => v = some (.long (timesF (pairF (nI A) (nI B)) 60)) ∧ frX s s') from hL 60 0 (by omega)
    intro j
    induction j with
    | zero =>
      intro i hij
      have hin : i = 60 := by omega
      subst hin
      refine MV.iload dX12_times_29 rfl ?_
      refine MV.bipush (v := nI 60) dX12_times_31 (by decide) ?_
      refine MV.icmp_gt 64 dX12_times_33 (by decide) (fun _ => ?_) (fun z => absurd (nI_lt (a := 60) (b := 61) (by omega) (by omega)) z)
      refine MV.lload_n dX12_times_64 rfl ?_
      refine MV.lret dX12_times_65 rfl ?_
      exact ⟨rfl, f2⟩
    | succ j ih =>
      intro i hij
      refine MV.iload dX12_times_29 rfl ?_
      refine MV.bipush (v := nI 60) dX12_times_31 (by decide) ?_
      refine MV.icmp_gt 64 dX12_times_33 (by decide) (fun z => absurd z (nI_nlt (a := 60) (by omega) (by omega))) (fun _ => ?_)
      refine MV.lload_n dX12_times_36 rfl ?_
      refine MV.aload_n dX12_times_37 rfl ?_
      refine MV.getf 50 fl_X12_105 dX12_times_38 (by decide) rfl ?_
      refine MV.iload dX12_times_41 rfl ?_
      refine MV.ald C12_in50 dX12_times_43 (rfl) (by omega) (by decide) ?_
      refine MV.iconst (v := (-1)) dX12_times_44 (by decide) ?_
      refine MV.icmp_eq 55 dX12_times_45 (by decide) (fun c45 => ?_) (fun c45 => ?_)
      · skip
        have q45 : pairF (nI A) (nI B) (i + 1) = 0 := by
          have := (hE (i + 1) (by omega)).1
          by_cases z : pairF (nI A) (nI B) (i + 1) = 0
          · exact z
          · rw [if_neg z] at this
            exact absurd (this.symm.trans c45) (m1_ne (hE (i + 1) (by omega)).2)
        have hst : timesF (pairF (nI A) (nI B)) (i + 1) = timesF (pairF (nI A) (nI B)) i ||| 0 := by rw [timesF, if_pos q45]
        refine MV.lconst (v := 0) dX12_times_55 (by decide) ?_
        refine MV.lor dX12_times_56 ?_
        refine MV.lstore_n dX12_times_57 (by decide) rfl ?_
        refine MV.iinc (v := 1) dX12_times_58 rfl (by decide) (by decide) rfl ?_
        refine MV.goto 29 dX12_times_61 (by decide) ?_
        refine MV.weak [some (.ref a), none, none, some (.long (timesF (pairF (nI A) (nI B)) (i + 1))), none, some (.int (nI ((i + 1) + 1)))] (by simp [leL, sto1, sto2, k2c, nI_1, hst]) ?_
        exact ih (i + 1) (by omega)
      · skip
        have q45 : ¬ pairF (nI A) (nI B) (i + 1) = 0 := fun z => c45 (by rw [(hE (i + 1) (by omega)).1, if_pos z])
        have hst : timesF (pairF (nI A) (nI B)) (i + 1) = timesF (pairF (nI A) (nI B)) i ||| ((1 : Int64) <<< ((nI (i + 1)).toInt64 &&& 63)) := by rw [timesF, if_neg q45]
        refine MV.lconst (v := 1) dX12_times_48 (by decide) ?_
        refine MV.iload dX12_times_49 rfl ?_
        refine MV.lshl dX12_times_51 ?_
        refine MV.goto 56 dX12_times_52 (by decide) ?_
        refine MV.lor dX12_times_56 ?_
        refine MV.lstore_n dX12_times_57 (by decide) rfl ?_
        refine MV.iinc (v := 1) dX12_times_58 rfl (by decide) (by decide) rfl ?_
        refine MV.goto 29 dX12_times_61 (by decide) ?_
        refine MV.weak [some (.ref a), none, none, some (.long (timesF (pairF (nI A) (nI B)) (i + 1))), none, some (.int (nI ((i + 1) + 1)))] (by simp [leL, sto1, sto2, k2c, nI_1, hst]) ?_
        exact ih (i + 1) (by omega)
  · skip
    have hno := noTwo hR.1 c11
    refine MV.ldc2 kc_X12_470 dX12_times_14 ?_
    refine MV.lret dX12_times_17 rfl ?_
    exact ⟨by rw [aTimes, if_neg hno]; try rfl, frX.z⟩
set_option maxRecDepth 100000 in
set_option maxHeartbeats 2000000 in
theorem lightings_M {d n0 a : Nat} {κ : Kd} {h0 : Hp} (hd : 5 ≤ d) {T : Tx} {s c : St} (hqu : qui s) (hR : Rm T s 0 c) {x y t : Int32} : MV MX12_lightings (d, 0, 0, n0, κ) a h0 s 0 [some (.ref a), some (.int (x)), some (.int (y)), some (.int (t))] [] (fun v s' => v = some (.int (aLightings T c x y t)) ∧ frX s s') := by
  refine MV.aload_n dX12_lightings_0 rfl ?_
  refine MV.iconst (v := 0) dX12_lightings_1 (by decide) ?_
  refine MV.putf 0 fl_X12_148 dX12_lightings_2 (by decide) rfl (rfl) (rfl) C12_s0 ?_
  refine MV.aload_n dX12_lightings_5 rfl ?_
  refine MV.iload_n dX12_lightings_6 rfl ?_
  refine MV.iload_n dX12_lightings_7 rfl ?_
  refine MV.cV2 yoX12_areTwo ml_X12_456 im_X12_areTwo se_X12_areTwo dX12_lightings_8 rfl (Nat.le_of_ble_eq_true rfl) (by omega) rfl (Nat.le_of_ble_eq_true rfl) (areTwo_M (by omega)) (MV.rdK ?_)
  refine MV.if_eq 25 dX12_lightings_11 (by decide) (fun c11 => ?_) (fun c11 => ?_)
  · skip
    have hno := noTwo hR.1 c11
    have hA0 : aLightings T c x y t = -1 := by rw [aLightings, if_neg (fun z => hno z.1)]
    refine MV.iconst (v := (-1)) dX12_lightings_25 (by decide) ?_
    refine MV.iret dX12_lightings_26 rfl ?_
    exact ⟨by rw [hA0], frX.z⟩
  · skip
    obtain ⟨htwo, p, q, rfl, rfl, hp, hq, hp6, hq6, hnp, hnq, hne⟩ := yesTwo hR.1 c11
    obtain ⟨A, hA, hA60⟩ := hR.2.2.left hp
    obtain ⟨B, hB, hB60⟩ := hR.2.2.left hq
    refine MV.iload_n dX12_lightings_14 rfl ?_
    refine MV.iconst (v := 1) dX12_lightings_15 (by decide) ?_
    refine MV.icmp_lt 25 dX12_lightings_16 (by decide) (fun c16 => ?_) (fun c16 => ?_)
    · skip
      have hA0 : aLightings T c (nI p) (nI q) t = -1 := by rw [aLightings, if_neg (fun z => z.2.1 c16)]
      refine MV.iconst (v := (-1)) dX12_lightings_25 (by decide) ?_
      refine MV.iret dX12_lightings_26 rfl ?_
      exact ⟨by rw [hA0], frX.z⟩
    · skip
      refine MV.iload_n dX12_lightings_19 rfl ?_
      refine MV.bipush (v := 60) dX12_lightings_20 (by decide) ?_
      refine MV.icmp_le 27 dX12_lightings_22 (by decide) (fun c22 => ?_) (fun c22 => ?_)
      · skip
        have q22 : ¬ 60 < t := Int32.not_lt.mpr c22
        refine MV.aload_n dX12_lightings_27 rfl ?_
        refine MV.iload_n dX12_lightings_28 rfl ?_
        refine MV.iload_n dX12_lightings_29 rfl ?_
        refine MV.cV2 yoX12_lays ml_X12_472 im_X12_lays se_X12_lays dX12_lightings_30 rfl (Nat.le_of_ble_eq_true rfl) (by omega) rfl (Nat.le_of_ble_eq_true rfl) (lays_M (T := T) (c := c) (by omega) hR hp hq hp6 hq6 hA hB hA60 hB60) ?_
        rintro _ s2 ⟨rfl, hE, fE⟩
        obtain ⟨t1, t2⟩ := in60 c16 q22
        have hAn : aLightings T c (nI p) (nI q) t = if pairF (nI A) (nI B) (nat t) = 0 then -2 else pairF (nI A) (nI B) (nat t) := by rw [aLightings, if_pos ⟨htwo, c16, q22⟩, hnp, hnq, hA, hB]
        have hEt := (hE (nat t) t2).1
        refine MV.aload_n dX12_lightings_33 rfl ?_
        refine MV.getf 50 fl_X12_105 dX12_lightings_34 (by decide) rfl ?_
        refine MV.iload_n dX12_lightings_37 rfl ?_
        refine MV.ald C12_in50 dX12_lightings_38 (t1) (t2) (by decide) ?_
        refine MV.iconst (v := (-1)) dX12_lightings_39 (by decide) ?_
        refine MV.icmp_ne 48 dX12_lightings_40 (by decide) (fun c40 => ?_) (fun c40 => ?_)
        · skip
          have q40 : ¬ pairF (nI A) (nI B) (nat t) = 0 := fun z => c40 (by rw [hEt, if_pos z])
          rw [if_neg q40] at hAn hEt
          refine MV.aload_n dX12_lightings_48 rfl ?_
          refine MV.getf 50 fl_X12_105 dX12_lightings_49 (by decide) rfl ?_
          refine MV.iload_n dX12_lightings_52 rfl ?_
          refine MV.ald C12_in50 dX12_lightings_53 (t1) (t2) (by decide) ?_
          refine MV.iret dX12_lightings_54 rfl ?_
          first
          | (refine ⟨?_, frX.z.tr fE.X⟩
             rw [hAn]
             done)
          | (refine ⟨?_, frX.z.tr fE.X⟩
             rw [hAn, hEt]
             done)
        · skip
          have q40 : pairF (nI A) (nI B) (nat t) = 0 := by
            by_cases z : pairF (nI A) (nI B) (nat t) = 0
            · exact z
            · rw [if_neg z] at hEt
              exact absurd (hEt.symm.trans c40) (m1_ne (hE (nat t) t2).2)
          rw [if_pos q40] at hAn
          refine MV.bipush (v := (-2)) dX12_lightings_43 (by decide) ?_
          refine MV.goto 54 dX12_lightings_45 (by decide) ?_
          refine MV.iret dX12_lightings_54 rfl ?_
          first
          | (refine ⟨?_, frX.z.tr fE.X⟩
             rw [hAn]
             done)
          | (refine ⟨?_, frX.z.tr fE.X⟩
             rw [hAn, hEt]
             done)
      · skip
        have hA0 : aLightings T c (nI p) (nI q) t = -1 := by rw [aLightings, if_neg (fun z => z.2.2 (Int32.not_le.mp c22))]
        refine MV.iconst (v := (-1)) dX12_lightings_25 (by decide) ?_
        refine MV.iret dX12_lightings_26 rfl ?_
        exact ⟨by rw [hA0], frX.z⟩
