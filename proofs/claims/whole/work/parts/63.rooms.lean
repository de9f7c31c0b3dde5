/-! The model: rooms begun, copied, gone through -/
theorem rixe {r p : Nat} : 6 * nI r + nI p = nI (6 * r + p) := rix r p
/-- a room's rows, written at p -/
theorem at4 {s : St} {r p : Nat} {v1 v2 v3 v4 : Int32} : ∀ k, 40 ≤ k → k ≤ 43 → ∀ q, (mA (mA (mA (mA s 40 (6 * r + p) v1) 41 (6 * r + p) v2) 42 (6 * r + p) v3) 43 (6 * r + p) v4).2.1 k q = if q = 6 * r + p then (if k = 40 then v1 else if k = 41 then v2 else if k = 42 then v3 else v4) else s.2.1 k q := by
  intro k h1 h2 q
  have h : k = 40 ∨ k = 41 ∨ k = 42 ∨ k = 43 := by omega
  rcases h with rfl | rfl | rfl | rfl
  · rw [mA_ne (by decide), mA_ne (by decide), mA_ne (by decide), mA_at]; rfl
  · rw [mA_ne (by decide), mA_ne (by decide), mA_at, mA_ne (by decide)]; rfl
  · rw [mA_ne (by decide), mA_at, mA_ne (by decide), mA_ne (by decide)]; rfl
  · rw [mA_at, mA_ne (by decide), mA_ne (by decide), mA_ne (by decide)]; rfl
theorem fr4 {s : St} {r p : Nat} {v1 v2 v3 v4 : Int32} (hp : p < 6) : frR r s (mA (mA (mA (mA s 40 (6 * r + p) v1) 41 (6 * r + p) v2) 42 (6 * r + p) v3) 43 (6 * r + p) v4) := (((frR.p hp (by decide)).tr (frR.p hp (by decide))).tr (frR.p hp (by decide))).tr (frR.p hp (by decide))
theorem fr4q {s : St} {r : Nat} {v1 v2 v3 v4 : Int32} : frR r s (mA (mA (mA (mA s 36 r v1) 37 r v2) 38 r v3) 39 r v4) := (((frR.q (by decide)).tr (frR.q (by decide))).tr (frR.q (by decide))).tr (frR.q (by decide))
set_option maxRecDepth 100000 in
set_option maxHeartbeats 1000000 in
theorem starts_M {d n0 a : Nat} {κ : Kd} {h0 : Hp} (hd : 1 ≤ d) {s : St} {r : Nat} (hr : r < 23) : MV MX12_starts (d, 0, 0, n0, κ) a h0 s 0 [some (.ref a), some (.int (nI r)), none] [] (fun v s' => v = none ∧ frR r s s' ∧ (s'.2.1 36 r = 0 ∧ s'.2.1 37 r = s.2.1 3 6 ∧ s'.2.1 38 r = 0 ∧ s'.2.1 39 r = 0) ∧ ∀ k p, 40 ≤ k → k ≤ 43 → p < 6 → s'.2.1 k (6 * r + p) = 0) := by
  have hL : ∀ (j i : Nat) (s2 : St), i + j = 6 → frR r s s2 → (s2.2.1 36 r = 0 ∧ s2.2.1 37 r = s.2.1 3 6 ∧ s2.2.1 38 r = 0 ∧ s2.2.1 39 r = 0) → (∀ k p, 40 ≤ k → k ≤ 43 → p < i → s2.2.1 k (6 * r + p) = 0) → MV MX12_starts (d, 0, 0, n0, κ) a h0 s2 36 [some (.ref a), some (.int (nI r)), some (.int (nI i))] [] (fun v s' => v = none ∧ frR r s s' ∧ (s'.2.1 36 r = 0 ∧ s'.2.1 37 r = s.2.1 3 6 ∧ s'.2.1 38 r = 0 ∧ s'.2.1 39 r = 0) ∧ ∀ k p, 40 ≤ k → k ≤ 43 → p < 6 → s'.2.1 k (6 * r + p) = 0) := by
    intro j
    induction j with
    | zero =>
      intro i s2 hij f2 hf hz
      have : i = 6 := by omega
      subst this
      refine MV.iload_n dX12_starts_36 rfl ?_
      refine MV.bipush (v := 6) dX12_starts_37 (by decide) ?_
      refine MV.icmp_ge 96 dX12_starts_39 (by decide) (fun _ => ?_) (fun z => absurd (nI_le (a := 6) (b := 6) (by omega) (by omega)) z)
      refine MV.vret dX12_starts_96 rfl ?_
      exact ⟨rfl, f2, hf, fun k p h1 h2 h3 => hz k p h1 h2 h3⟩
    | succ j ih =>
      intro i s2 hij f2 hf hz
      refine MV.iload_n dX12_starts_36 rfl ?_
      refine MV.bipush (v := 6) dX12_starts_37 (by decide) ?_
      refine MV.icmp_ge 96 dX12_starts_39 (by decide) (fun z => absurd z (nI_ge (b := 6) (by omega) (by omega))) (fun _ => ?_)
      refine MV.aload_n dX12_starts_42 rfl ?_
      refine MV.getf 40 fl_X12_87 dX12_starts_43 (by decide) rfl ?_
      refine MV.bipush (v := 6) dX12_starts_46 (by decide) ?_
      refine MV.iload_n dX12_starts_48 rfl ?_
      refine MV.imul dX12_starts_49 ?_
      refine MV.iload_n dX12_starts_50 rfl ?_
      refine MV.iadd dX12_starts_51 ?_
      refine MV.iconst (v := 0) dX12_starts_52 (by decide) ?_
      refine MV.ast C12_in40 dX12_starts_53 (rix _ _) (by omega) (by decide) ?_
      refine MV.aload_n dX12_starts_54 rfl ?_
      refine MV.getf 41 fl_X12_90 dX12_starts_55 (by decide) rfl ?_
      refine MV.bipush (v := 6) dX12_starts_58 (by decide) ?_
      refine MV.iload_n dX12_starts_60 rfl ?_
      refine MV.imul dX12_starts_61 ?_
      refine MV.iload_n dX12_starts_62 rfl ?_
      refine MV.iadd dX12_starts_63 ?_
      refine MV.iconst (v := 0) dX12_starts_64 (by decide) ?_
      refine MV.ast C12_in41 dX12_starts_65 (rix _ _) (by omega) (by decide) ?_
      refine MV.aload_n dX12_starts_66 rfl ?_
      refine MV.getf 42 fl_X12_93 dX12_starts_67 (by decide) rfl ?_
      refine MV.bipush (v := 6) dX12_starts_70 (by decide) ?_
      refine MV.iload_n dX12_starts_72 rfl ?_
      refine MV.imul dX12_starts_73 ?_
      refine MV.iload_n dX12_starts_74 rfl ?_
      refine MV.iadd dX12_starts_75 ?_
      refine MV.iconst (v := 0) dX12_starts_76 (by decide) ?_
      refine MV.ast C12_in42 dX12_starts_77 (rix _ _) (by omega) (by decide) ?_
      refine MV.aload_n dX12_starts_78 rfl ?_
      refine MV.getf 43 fl_X12_96 dX12_starts_79 (by decide) rfl ?_
      refine MV.bipush (v := 6) dX12_starts_82 (by decide) ?_
      refine MV.iload_n dX12_starts_84 rfl ?_
      refine MV.imul dX12_starts_85 ?_
      refine MV.iload_n dX12_starts_86 rfl ?_
      refine MV.iadd dX12_starts_87 ?_
      refine MV.iconst (v := 0) dX12_starts_88 (by decide) ?_
      refine MV.ast C12_in43 dX12_starts_89 (rix _ _) (by omega) (by decide) ?_
      refine MV.iinc (v := 1) dX12_starts_90 rfl (by decide) (by decide) rfl ?_
      refine MV.goto 36 dX12_starts_93 (by decide) ?_
      refine MV.weak [some (.ref a), some (.int (nI r)), some (.int (nI (i + 1)))] (by simp [leL, sto1, sto2, k2c, nI_1]) ?_
      refine ih (i + 1) _ (by omega) (f2.tr (fr4 (by omega))) hf (fun k p h1 h2 h3 => ?_)
      rw [at4 k h1 h2]
      by_cases e : p = i
      · rw [if_pos (by omega)]
        split
        · rfl
        · split
          · rfl
          · split <;> rfl
      · rw [if_neg (by omega)]
        exact hz k p h1 h2 (by omega)
  refine MV.aload_n dX12_starts_0 rfl ?_
  refine MV.getf 36 fl_X12_75 dX12_starts_1 (by decide) rfl ?_
  refine MV.iload_n dX12_starts_4 rfl ?_
  refine MV.iconst (v := 0) dX12_starts_5 (by decide) ?_
  refine MV.ast C12_in36 dX12_starts_6 (rfl) (by omega) (by decide) ?_
  refine MV.aload_n dX12_starts_7 rfl ?_
  refine MV.getf 37 fl_X12_78 dX12_starts_8 (by decide) rfl ?_
  refine MV.iload_n dX12_starts_11 rfl ?_
  refine MV.aload_n dX12_starts_12 rfl ?_
  refine MV.getf 3 fl_X12_13 dX12_starts_13 (by decide) rfl ?_
  refine MV.bipush (v := nI 6) dX12_starts_16 (by decide) ?_
  refine MV.ald C12_in3 dX12_starts_18 (rfl) (by omega) (by decide) ?_
  refine MV.ast C12_in37 dX12_starts_19 (rfl) (by omega) (by decide) ?_
  refine MV.aload_n dX12_starts_20 rfl ?_
  refine MV.getf 38 fl_X12_81 dX12_starts_21 (by decide) rfl ?_
  refine MV.iload_n dX12_starts_24 rfl ?_
  refine MV.iconst (v := 0) dX12_starts_25 (by decide) ?_
  refine MV.ast C12_in38 dX12_starts_26 (rfl) (by omega) (by decide) ?_
  refine MV.aload_n dX12_starts_27 rfl ?_
  refine MV.getf 39 fl_X12_84 dX12_starts_28 (by decide) rfl ?_
  refine MV.iload_n dX12_starts_31 rfl ?_
  refine MV.iconst (v := 0) dX12_starts_32 (by decide) ?_
  refine MV.ast C12_in39 dX12_starts_33 (rfl) (by omega) (by decide) ?_
  refine MV.iconst (v := nI 0) dX12_starts_34 (by decide) ?_
  refine MV.istore_n dX12_starts_35 (by decide) rfl ?_
  refine hL 6 0 _ (by omega) fr4q ⟨by rw [mA_ne (by decide), mA_ne (by decide), mA_ne (by decide), mA_at, if_pos rfl], by rw [mA_ne (by decide), mA_ne (by decide), mA_at, if_pos rfl]; rfl, by rw [mA_ne (by decide), mA_at, if_pos rfl], by rw [mA_at, if_pos rfl]⟩ (fun k p _ _ h => by omega)
set_option maxRecDepth 100000 in
set_option maxHeartbeats 1000000 in
theorem copies_M {d n0 a : Nat} {κ : Kd} {h0 : Hp} (hd : 1 ≤ d) {s : St} {r q : Nat} (hr : r < 23) (hq : q < 23) (hne : ¬ r = q) : MV MX12_copies (d, 0, 0, n0, κ) a h0 s 0 [some (.ref a), some (.int (nI r)), some (.int (nI q)), none] [] (fun v s' => v = none ∧ frR r s s' ∧ (∀ k, 36 ≤ k → k ≤ 39 → s'.2.1 k r = s.2.1 k q) ∧ ∀ k p, 40 ≤ k → k ≤ 43 → p < 6 → s'.2.1 k (6 * r + p) = s.2.1 k (6 * q + p)) := by
  have hL : ∀ (j i : Nat) (s2 : St), i + j = 6 → frR r s s2 → (∀ k, 36 ≤ k → k ≤ 39 → s2.2.1 k r = s.2.1 k q) → (∀ k p, 40 ≤ k → k ≤ 43 → p < i → s2.2.1 k (6 * r + p) = s.2.1 k (6 * q + p)) → MV MX12_copies (d, 0, 0, n0, κ) a h0 s2 50 [some (.ref a), some (.int (nI r)), some (.int (nI q)), some (.int (nI i))] [] (fun v s' => v = none ∧ frR r s s' ∧ (∀ k, 36 ≤ k → k ≤ 39 → s'.2.1 k r = s.2.1 k q) ∧ ∀ k p, 40 ≤ k → k ≤ 43 → p < 6 → s'.2.1 k (6 * r + p) = s.2.1 k (6 * q + p)) := by
    intro j
    induction j with
    | zero =>
      intro i s2 hij f2 hf hz
      have : i = 6 := by omega
      subst this
      refine MV.iload_n dX12_copies_50 rfl ?_
      refine MV.bipush (v := 6) dX12_copies_51 (by decide) ?_
      refine MV.icmp_ge 150 dX12_copies_53 (by decide) (fun _ => ?_) (fun z => absurd (nI_le (a := 6) (b := 6) (by omega) (by omega)) z)
      refine MV.vret dX12_copies_150 rfl ?_
      exact ⟨rfl, f2, hf, fun k p h1 h2 h3 => hz k p h1 h2 h3⟩
    | succ j ih =>
      intro i s2 hij f2 hf hz
      have hs : ∀ k, 40 ≤ k → k ≤ 43 → s2.2.1 k (6 * q + i) = s.2.1 k (6 * q + i) := fun k h1 h2 => f2.2.2.2 k _ h1 h2 (by omega)
      refine MV.iload_n dX12_copies_50 rfl ?_
      refine MV.bipush (v := 6) dX12_copies_51 (by decide) ?_
      refine MV.icmp_ge 150 dX12_copies_53 (by decide) (fun z => absurd z (nI_ge (b := 6) (by omega) (by omega))) (fun _ => ?_)
      refine MV.aload_n dX12_copies_56 rfl ?_
      refine MV.getf 40 fl_X12_87 dX12_copies_57 (by decide) rfl ?_
      refine MV.bipush (v := 6) dX12_copies_60 (by decide) ?_
      refine MV.iload_n dX12_copies_62 rfl ?_
      refine MV.imul dX12_copies_63 ?_
      refine MV.iload_n dX12_copies_64 rfl ?_
      refine MV.iadd dX12_copies_65 ?_
      refine MV.aload_n dX12_copies_66 rfl ?_
      refine MV.getf 40 fl_X12_87 dX12_copies_67 (by decide) rfl ?_
      refine MV.bipush (v := 6) dX12_copies_70 (by decide) ?_
      refine MV.iload_n dX12_copies_72 rfl ?_
      refine MV.imul dX12_copies_73 ?_
      refine MV.iload_n dX12_copies_74 rfl ?_
      refine MV.iadd dX12_copies_75 ?_
      refine MV.ald C12_in40 dX12_copies_76 (rix _ _) (by omega) (by decide) ?_
      refine MV.ast C12_in40 dX12_copies_77 (rix _ _) (by omega) (by decide) ?_
      refine MV.aload_n dX12_copies_78 rfl ?_
      refine MV.getf 41 fl_X12_90 dX12_copies_79 (by decide) rfl ?_
      refine MV.bipush (v := 6) dX12_copies_82 (by decide) ?_
      refine MV.iload_n dX12_copies_84 rfl ?_
      refine MV.imul dX12_copies_85 ?_
      refine MV.iload_n dX12_copies_86 rfl ?_
      refine MV.iadd dX12_copies_87 ?_
      refine MV.aload_n dX12_copies_88 rfl ?_
      refine MV.getf 41 fl_X12_90 dX12_copies_89 (by decide) rfl ?_
      refine MV.bipush (v := 6) dX12_copies_92 (by decide) ?_
      refine MV.iload_n dX12_copies_94 rfl ?_
      refine MV.imul dX12_copies_95 ?_
      refine MV.iload_n dX12_copies_96 rfl ?_
      refine MV.iadd dX12_copies_97 ?_
      refine MV.ald C12_in41 dX12_copies_98 (rix _ _) (by omega) (by decide) ?_
      refine MV.ast C12_in41 dX12_copies_99 (rix _ _) (by omega) (by decide) ?_
      refine MV.aload_n dX12_copies_100 rfl ?_
      refine MV.getf 42 fl_X12_93 dX12_copies_101 (by decide) rfl ?_
      refine MV.bipush (v := 6) dX12_copies_104 (by decide) ?_
      refine MV.iload_n dX12_copies_106 rfl ?_
      refine MV.imul dX12_copies_107 ?_
      refine MV.iload_n dX12_copies_108 rfl ?_
      refine MV.iadd dX12_copies_109 ?_
      refine MV.aload_n dX12_copies_110 rfl ?_
      refine MV.getf 42 fl_X12_93 dX12_copies_111 (by decide) rfl ?_
      refine MV.bipush (v := 6) dX12_copies_114 (by decide) ?_
      refine MV.iload_n dX12_copies_116 rfl ?_
      refine MV.imul dX12_copies_117 ?_
      refine MV.iload_n dX12_copies_118 rfl ?_
      refine MV.iadd dX12_copies_119 ?_
      refine MV.ald C12_in42 dX12_copies_120 (rix _ _) (by omega) (by decide) ?_
      refine MV.ast C12_in42 dX12_copies_121 (rix _ _) (by omega) (by decide) ?_
      refine MV.aload_n dX12_copies_122 rfl ?_
      refine MV.getf 43 fl_X12_96 dX12_copies_123 (by decide) rfl ?_
      refine MV.bipush (v := 6) dX12_copies_126 (by decide) ?_
      refine MV.iload_n dX12_copies_128 rfl ?_
      refine MV.imul dX12_copies_129 ?_
      refine MV.iload_n dX12_copies_130 rfl ?_
      refine MV.iadd dX12_copies_131 ?_
      refine MV.aload_n dX12_copies_132 rfl ?_
      refine MV.getf 43 fl_X12_96 dX12_copies_133 (by decide) rfl ?_
      refine MV.bipush (v := 6) dX12_copies_136 (by decide) ?_
      refine MV.iload_n dX12_copies_138 rfl ?_
      refine MV.imul dX12_copies_139 ?_
      refine MV.iload_n dX12_copies_140 rfl ?_
      refine MV.iadd dX12_copies_141 ?_
      refine MV.ald C12_in43 dX12_copies_142 (rix _ _) (by omega) (by decide) ?_
      refine MV.ast C12_in43 dX12_copies_143 (rix _ _) (by omega) (by decide) ?_
      refine MV.iinc (v := 1) dX12_copies_144 rfl (by decide) (by decide) rfl ?_
      refine MV.goto 50 dX12_copies_147 (by decide) ?_
      refine MV.weak [some (.ref a), some (.int (nI r)), some (.int (nI q)), some (.int (nI (i + 1)))] (by simp [leL, sto1, sto2, k2c, nI_1]) ?_
      refine ih (i + 1) _ (by omega) (f2.tr (fr4 (by omega))) (fun k h1 h2 => ?_) (fun k p h1 h2 h3 => ?_)
      · rw [mA_ne (by omega), mA_ne (by omega), mA_ne (by omega), mA_ne (by omega)]
        exact hf k h1 h2
      rw [at4 k h1 h2]
      by_cases e : p = i
      · subst e
        rw [if_pos rfl]
        have h : k = 40 ∨ k = 41 ∨ k = 42 ∨ k = 43 := by omega
        rcases h with rfl | rfl | rfl | rfl
        · exact hs 40 (by decide) (by decide)
        · exact hs 41 (by decide) (by decide)
        · exact hs 42 (by decide) (by decide)
        · exact hs 43 (by decide) (by decide)
      · rw [if_neg (by omega)]
        exact hz k p h1 h2 (by omega)
  refine MV.aload_n dX12_copies_0 rfl ?_
  refine MV.getf 36 fl_X12_75 dX12_copies_1 (by decide) rfl ?_
  refine MV.iload_n dX12_copies_4 rfl ?_
  refine MV.aload_n dX12_copies_5 rfl ?_
  refine MV.getf 36 fl_X12_75 dX12_copies_6 (by decide) rfl ?_
  refine MV.iload_n dX12_copies_9 rfl ?_
  refine MV.ald C12_in36 dX12_copies_10 (rfl) (by omega) (by decide) ?_
  refine MV.ast C12_in36 dX12_copies_11 (rfl) (by omega) (by decide) ?_
  refine MV.aload_n dX12_copies_12 rfl ?_
  refine MV.getf 37 fl_X12_78 dX12_copies_13 (by decide) rfl ?_
  refine MV.iload_n dX12_copies_16 rfl ?_
  refine MV.aload_n dX12_copies_17 rfl ?_
  refine MV.getf 37 fl_X12_78 dX12_copies_18 (by decide) rfl ?_
  refine MV.iload_n dX12_copies_21 rfl ?_
  refine MV.ald C12_in37 dX12_copies_22 (rfl) (by omega) (by decide) ?_
  refine MV.ast C12_in37 dX12_copies_23 (rfl) (by omega) (by decide) ?_
  refine MV.aload_n dX12_copies_24 rfl ?_
  refine MV.getf 38 fl_X12_81 dX12_copies_25 (by decide) rfl ?_
  refine MV.iload_n dX12_copies_28 rfl ?_
  refine MV.aload_n dX12_copies_29 rfl ?_
  refine MV.getf 38 fl_X12_81 dX12_copies_30 (by decide) rfl ?_
  refine MV.iload_n dX12_copies_33 rfl ?_
  refine MV.ald C12_in38 dX12_copies_34 (rfl) (by omega) (by decide) ?_
  refine MV.ast C12_in38 dX12_copies_35 (rfl) (by omega) (by decide) ?_
  refine MV.aload_n dX12_copies_36 rfl ?_
  refine MV.getf 39 fl_X12_84 dX12_copies_37 (by decide) rfl ?_
  refine MV.iload_n dX12_copies_40 rfl ?_
  refine MV.aload_n dX12_copies_41 rfl ?_
  refine MV.getf 39 fl_X12_84 dX12_copies_42 (by decide) rfl ?_
  refine MV.iload_n dX12_copies_45 rfl ?_
  refine MV.ald C12_in39 dX12_copies_46 (rfl) (by omega) (by decide) ?_
  refine MV.ast C12_in39 dX12_copies_47 (rfl) (by omega) (by decide) ?_
  refine MV.iconst (v := nI 0) dX12_copies_48 (by decide) ?_
  refine MV.istore_n dX12_copies_49 (by decide) rfl ?_
  refine hL 6 0 _ (by omega) fr4q (fun k h1 h2 => ?_) (fun k p _ _ h => by omega)
  have h : k = 36 ∨ k = 37 ∨ k = 38 ∨ k = 39 := by omega
  rcases h with rfl | rfl | rfl | rfl
  · rw [mA_ne (by decide), mA_ne (by decide), mA_ne (by decide), mA_at, if_pos rfl]
  · rw [mA_ne (by decide), mA_ne (by decide), mA_at, if_pos rfl]; rfl
  · rw [mA_ne (by decide), mA_at, if_pos rfl]; rfl
  · rw [mA_at, if_pos rfl]; rfl
/-- a copied room is the other one -/
theorem relC.copy {T : Tx} {s s' c : St} {r q : Nat} (h : relC T s q c) (f : frR r s s') (h1 : ∀ k, 36 ≤ k → k ≤ 39 → s'.2.1 k r = s.2.1 k q) (h2 : ∀ k p, 40 ≤ k → k ≤ 43 → p < 6 → s'.2.1 k (6 * r + p) = s.2.1 k (6 * q + p)) : relC T s' r c := by
  obtain ⟨a0, a1, a2, a3, a4, a5, a6⟩ := h
  refine ⟨a0, a1.trans (h1 36 (by decide) (by decide)).symm, a2.trans (h1 37 (by decide) (by decide)).symm, a3.trans (h1 38 (by decide) (by decide)).symm, a4.trans (h1 39 (by decide) (by decide)).symm, fun p hp => ?_, fun p hp => ?_⟩
  · obtain ⟨b1, b2, b3, b4⟩ := a5 p hp
    exact ⟨b1.trans (h2 40 p (by decide) (by decide) hp).symm, b2.trans (h2 41 p (by decide) (by decide) hp).symm, b3.trans (h2 42 p (by decide) (by decide) hp).symm, b4.trans (h2 43 p (by decide) (by decide) hp).symm⟩
  · rw [f.mIn]
    exact a6 p hp
/-- another room stays -/
theorem relC.other {T : Tx} {s s' c : St} {r q : Nat} (h : relC T s q c) (f : frR r s s') (hne : ¬ r = q) : relC T s' q c := by
  obtain ⟨a0, a1, a2, a3, a4, a5, a6⟩ := h
  refine ⟨a0, a1.trans (f.2.2.1 36 q (by decide) (by decide) (by omega)).symm, a2.trans (f.2.2.1 37 q (by decide) (by decide) (by omega)).symm, a3.trans (f.2.2.1 38 q (by decide) (by decide) (by omega)).symm, a4.trans (f.2.2.1 39 q (by decide) (by decide) (by omega)).symm, fun p hp => ?_, fun p hp => ?_⟩
  · obtain ⟨b1, b2, b3, b4⟩ := a5 p hp
    exact ⟨b1.trans (f.2.2.2 40 _ (by decide) (by decide) (by omega)).symm, b2.trans (f.2.2.2 41 _ (by decide) (by decide) (by omega)).symm, b3.trans (f.2.2.2 42 _ (by decide) (by decide) (by omega)).symm, b4.trans (f.2.2.2 43 _ (by decide) (by decide) (by omega)).symm⟩
  · rw [f.mIn]
    exact a6 p hp
/-- a room just begun -/
theorem relC.begun {T : Tx} {s s' c : St} {r : Nat} (hT : relT T s.2.1) (f : frR r s s') (hf : s'.2.1 36 r = 0 ∧ s'.2.1 37 r = s.2.1 3 6 ∧ s'.2.1 38 r = 0 ∧ s'.2.1 39 r = 0) (hz : ∀ k p, 40 ≤ k → k ≤ 43 → p < 6 → s'.2.1 k (6 * r + p) = 0)
    (h0 : c.1 0 = T.1.1 0) (h7 : c.1 7 = 0) (h8 : c.1 8 = 0) (h9 : c.1 9 = 0) (h10 : c.1 10 = T.1.1 11) (hr : ∀ k p, 3 ≤ k → k ≤ 6 → p < 6 → c.2.1 k p = 0) (hi : ∀ p, p < nat (T.1.1 0) → c.2.1 1 p = mIn s p ∧ c.2.2.1 2 p = T.1.2.2.1 3 p) : relC T s' r c := by
  refine ⟨h0, h7.trans hf.1.symm, ?_, h8.trans hf.2.2.1.symm, h9.trans hf.2.2.2.symm, fun p hp => ?_, fun p hp => ?_⟩
  · rw [h10, hf.2.1]; exact hT.2.2.2.2.2.1.2
  · exact ⟨(hr 3 p (by decide) (by decide) hp).trans (hz 40 p (by decide) (by decide) hp).symm, (hr 4 p (by decide) (by decide) hp).trans (hz 41 p (by decide) (by decide) hp).symm, (hr 5 p (by decide) (by decide) hp).trans (hz 42 p (by decide) (by decide) hp).symm, (hr 6 p (by decide) (by decide) hp).trans (hz 43 p (by decide) (by decide) hp).symm⟩
  · rw [f.mIn]; exact hi p hp
/-- so many HOURS -/
def hoursS (T : Tx) (k : Nat → Int32) (men : Int32) (look : Bool) : Nat → St → St
  | 0, c => c
  | n + 1, c => hoursS T k men look n (passS T k men look c)
set_option maxRecDepth 100000 in
set_option maxHeartbeats 1000000 in
theorem goesOn_M {d n0 a : Nat} {κ : Kd} {h0 : Hp} (hd : 7 ≤ d) {T : Tx} {k : Nat → Int32} {s c : St} {n : Nat} (hn : n ≤ 10000) (hw : wfT T) (hR : Rm T s 1 c) (hK : relK T k s false) : MV MX12_goesOn (d, 0, 0, n0, κ) a h0 s 0 [some (.ref a), some (.int (nI n)), none] [] (fun v s' => v = none ∧ Rm T s' 1 (hoursS T k 63 true n c) ∧ frR 1 s s') := by
  have hL : ∀ (j i : Nat) (s2 c2 : St), i + j = n → Rm T s2 1 c2 → frR 1 s s2 → hoursS T k 63 true j c2 = hoursS T k 63 true n c → MV MX12_goesOn (d, 0, 0, n0, κ) a h0 s2 2 [some (.ref a), some (.int (nI n)), some (.int (nI i))] [] (fun v s' => v = none ∧ Rm T s' 1 (hoursS T k 63 true n c) ∧ frR 1 s s') := by
    intro j
    induction j with
    | zero =>
      intro i s2 c2 hij hR2 f2 hq
      have hin : i = n := by omega
      subst hin
      refine MV.iload_n dX12_goesOn_2 rfl ?_
      refine MV.iload_n dX12_goesOn_3 rfl ?_
      refine MV.icmp_ge 19 dX12_goesOn_4 (by decide) (fun _ => ?_) (fun z => absurd (nI_le (Nat.le_refl _) (by omega)) z)
      refine MV.vret dX12_goesOn_19 rfl ?_
      exact ⟨rfl, by rw [← hq]; exact hR2, f2⟩
    | succ j ih =>
      intro i s2 c2 hij hR2 f2 hq
      refine MV.iload_n dX12_goesOn_2 rfl ?_
      refine MV.iload_n dX12_goesOn_3 rfl ?_
      refine MV.icmp_ge 19 dX12_goesOn_4 (by decide) (fun z => absurd z (nI_ge (by omega) (by omega))) (fun _ => ?_)
      refine MV.aload_n dX12_goesOn_7 rfl ?_
      refine MV.iconst (v := nI 1) dX12_goesOn_8 (by decide) ?_
      refine MV.iconst (v := (bI false)) dX12_goesOn_9 (by decide) ?_
      refine MV.cV2 yoX12_passes ml_X12_421 im_X12_passes se_X12_passes dX12_goesOn_10 rfl (Nat.le_of_ble_eq_true rfl) (by omega) rfl (Nat.le_of_ble_eq_true rfl) (passes_M (T := T) (k := k) (c := c2) (byN := false) (by omega) (by decide) hw hR2 (hK.fr f2) rfl) ?_
      rintro _ s3 ⟨rfl, hR3, f3⟩
      refine MV.iinc (v := 1) dX12_goesOn_13 rfl (by decide) (by decide) rfl ?_
      refine MV.goto 2 dX12_goesOn_16 (by decide) ?_
      refine MV.weak [some (.ref a), some (.int (nI n)), some (.int (nI (i + 1)))] (by simp [leL, sto1, sto2, k2c, nI_1]) ?_
      exact ih (i + 1) _ _ (by omega) hR3 (f2.tr f3) hq
  refine MV.iconst (v := nI 0) dX12_goesOn_0 (by decide) ?_
  refine MV.istore_n dX12_goesOn_1 (by decide) rfl ?_
  exact hL n 0 s c (by omega) hR frR.rf rfl
def scV (s s' : St) : Prop := (∀ j, j ≠ 35 → s'.1 j = s.1 j) ∧ s'.2.1 = s.2.1
theorem frR.v {r : Nat} {s s' : St} (h : scV s s') : frR r s s' := ⟨h.1, fun _ _ => by rw [h.2], fun _ _ _ _ _ => by rw [h.2], fun _ _ _ _ _ => by rw [h.2]⟩
def aRec (T : Tx) (c : St) (p : Nat) : Int32 := if tW T 2 c p (tWindy T.1) = ERR then cJunesLeft c p else withinI (tW T 2 c p (tWindy T.1)) 9999
theorem wAs0 {s : St} {T : Tx} (hT : relT T s.2.1) (h : s.1 46 = 0) : wAsB (s.1 46) (s.2.1 3 5) = tWindy T.1 := by
  rw [h, ← hT.2.2.2.2.2.1.1]
  unfold wAsB tWindy
  rw [show decide ((0 : Int32) = 1) = false by decide, show decide (¬ (0 : Int32) = 5) = true by decide, Bool.false_or, Bool.true_and]
set_option maxRecDepth 100000 in
set_option maxHeartbeats 1000000 in
theorem recallOf_M {d n0 a : Nat} {κ : Kd} {h0 : Hp} (hd : 5 ≤ d) {T : Tx} {s c : St} {r p : Nat} (hr : r < 23) (hR : Rm T s r c) (hp : p < nat (T.1.1 0)) (h46 : s.1 46 = 0) : MV MX12_recallOf (d, 0, 0, n0, κ) a h0 s 0 [some (.ref a), some (.int (nI r)), some (.int (nI p))] [] (fun v s' => v = some (.int (aRec T c p)) ∧ scV s s') := by
  refine MV.aload_n dX12_recallOf_0 rfl ?_
  refine MV.iload_n dX12_recallOf_1 rfl ?_
  refine MV.iload_n dX12_recallOf_2 rfl ?_
  refine MV.aload_n dX12_recallOf_3 rfl ?_
  refine MV.cV0 yoX12_windyAsItGoes ml_X12_378 im_X12_windyAsItGoes se_X12_windyAsItGoes dX12_recallOf_4 rfl (Nat.le_of_ble_eq_true rfl) (by omega) rfl (Nat.le_of_ble_eq_true rfl) (wAs_M (by omega)) (MV.rdK ?_)
  refine MV.eqi (bI (tWindy T.1)) (by rw [wAs0 hR.1 h46]) ?_
  refine MV.cV3 yoX12_calls ml_X12_382 im_X12_calls se_X12_calls dX12_recallOf_7 rfl (Nat.le_of_ble_eq_true rfl) (by omega) rfl (Nat.le_of_ble_eq_true rfl) (calls_M (T := T) (c := c) (w := tWindy T.1) (by omega) hr hR.1 hR.2.1 hR.2.2 hp) ?_
  rintro _ s1 ⟨rfl, hN, k1, k2⟩
  have hsc : frR r s s1 := ⟨fun j _ => by rw [k1], fun _ _ => by rw [k2], fun _ _ _ _ _ => by rw [k2], fun _ _ _ _ _ => by rw [k2]⟩
  have hR1 : Rm T s1 r c := by
    obtain ⟨q1, q2, q3⟩ := hR
    refine ⟨by rw [k2]; exact q1, ?_, q3⟩
    unfold relC mIn at q2 ⊢
    rw [k2, k1]
    exact q2
  have hj := hR1.1.2.1.1
  refine MV.aload_n dX12_recallOf_10 rfl ?_
  refine MV.iconst (v := nI 2) dX12_recallOf_11 (by decide) ?_
  refine MV.sipush (v := nI 9999) dX12_recallOf_12 (by decide) ?_
  refine MV.aload_n dX12_recallOf_15 rfl ?_
  refine MV.iload_n dX12_recallOf_16 rfl ?_
  refine MV.iload_n dX12_recallOf_17 rfl ?_
  refine MV.cV2 yoX12_junesOf ml_X12_359 im_X12_junesOf se_X12_junesOf dX12_recallOf_18 rfl (Nat.le_of_ble_eq_true rfl) (by omega) rfl (Nat.le_of_ble_eq_true rfl) (junesOf_M (by omega) hr (hR.p6 hp) hj.1 (by have := hj.2; omega)) (MV.rdK ?_)
  refine MV.eqi (cJunesLeft c p) (hR1.2.1.junes hR1.1 hR1.2.2 hp) ?_
  refine MV.cV3 yoX12_within ml_X12_386 im_X12_within se_X12_within dX12_recallOf_21 rfl (Nat.le_of_ble_eq_true rfl) (by omega) rfl (Nat.le_of_ble_eq_true rfl) (within_M (T := T) (c := c) (p := p) (q := 2) (k := 9999) (w := tWindy T.1) (by omega) (by decide) (by decide) hR1.1 hN) ?_
  rintro _ s2 ⟨x, rfl, hx, sc⟩
  refine MV.iret dX12_recallOf_24 rfl ?_
  exact ⟨by rw [hx]; rfl, fun j hj => (sc.1 j hj).trans (by rw [k1]), sc.2.1.trans k2⟩
