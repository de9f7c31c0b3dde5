/-! text of the model -/
def fgT (T : Tx) : Tx := (tForget T.1, dForget T.2.1, dForget T.2.2.1, lForget T.2.2.2)
/-- how the class's reading begins -/
def S00 (b : Nat → Int32) (n : Nat) (kd : Int32) (pl : Nat) (vl : Int32) (T : Tx) (l : List Int32) (o : Nat) : PS := (tokN b n (0, kd, pl, vl), fgT T, 0, -1, l, o)
theorem nat_0 : nat 0 = 0 := rfl
theorem relT_0 {T : Tx} {g : Nat → Nat → Int32} (h3 : ∀ k, k < 8 → g 3 k = 0) (h16 : ∀ r, r < 3 → g 16 r = 0 ∧ g 17 r = 0) : relT (fgT T) g := by
  have o : ∀ b : Nat, 0 < b → b ≤ 100 → okN 0 b := fun b h1 h2 => okN.of (n := 0) rfl h1 (by omega)
  refine ⟨⟨?_, ?_, ?_⟩, ⟨?_, ?_, ?_, ?_, ?_⟩, ⟨?_, ?_, ?_⟩, ⟨?_, ?_, ?_⟩, ⟨?_, ?_, ?_, ?_⟩, ⟨?_, ?_⟩, ⟨?_, ?_, ?_, ?_⟩⟩
  · rw [h3 0 (by decide)]; exact o 7 (by decide) (by decide)
  · rw [h3 0 (by decide)]; rfl
  · rw [h3 0 (by decide)]; intro p hp; exact absurd hp (by rw [nat_0]; omega)
  · rw [h3 1 (by decide)]; exact o 13 (by decide) (by decide)
  · rw [h3 1 (by decide)]; rfl
  · rw [h3 1 (by decide)]; intro p hp; exact absurd hp (by rw [nat_0]; omega)
  · rw [h3 1 (by decide)]; intro j k _ hp; exact absurd hp (by rw [nat_0]; omega)
  · rw [h3 1 (by decide)]; intro p hp; rw [nat_0]; rfl
  · rw [h3 2 (by decide)]; exact o 13 (by decide) (by decide)
  · rw [h3 2 (by decide)]; rfl
  · rw [h3 2 (by decide)]; intro p hp; exact absurd hp (by rw [nat_0]; omega)
  · rw [h3 3 (by decide)]; exact o 9 (by decide) (by decide)
  · rw [h3 3 (by decide)]; rfl
  · rw [h3 3 (by decide)]; intro p hp; exact absurd hp (by rw [nat_0]; omega)
  · rw [h3 4 (by decide)]; exact o 9 (by decide) (by decide)
  · rw [h3 4 (by decide)]; rfl
  · rw [h3 4 (by decide)]; intro p hp; exact absurd hp (by rw [nat_0]; omega)
  · rw [h3 4 (by decide)]; intro p hp; rw [nat_0]; rfl
  · rw [h3 5 (by decide)]; rfl
  · rw [h3 6 (by decide)]; rfl
  · rw [h3 7 (by decide)]; exact o 65 (by decide) (by decide)
  · rw [h3 7 (by decide)]; rfl
  · rw [h3 7 (by decide)]; intro p hp; exact absurd hp (by rw [nat_0]; omega)
  · intro r hr
    rw [(h16 r hr).1, (h16 r hr).2]
    have e4 : (lForget T.2.2.2).2.1 4 r = 0 := rfl
    have e5 : (lForget T.2.2.2).2.1 5 r = 0 := rfl
    exact ⟨e4, e5, o 65 (by decide) (by decide), o 65 (by decide) (by decide), Nat.le_refl _, Nat.zero_le _, fun z => absurd z (Nat.lt_irrefl _)⟩
theorem relP_0 {b : Nat → Int32} {n : Nat} {s : St} {kd vl : Int32} {pl o : Nat} {T : Tx} {l : List Int32} (ht : tkS b n s (tokN b n (0, kd, pl, vl))) (h3 : ∀ k, k < 8 → s.2.1 3 (8 + k) = 0) (h16 : ∀ k, 3 ≤ k → k < 6 → s.2.1 16 k = 0 ∧ s.2.1 17 k = 0) (e20 : s.1 20 = 0) (e31 : s.1 31 = 0) (e32 : s.1 32 = 0) (hc : T.2.1.1 1 = 12 ∧ T.2.2.1.1 1 = 8) : relP b n s (S00 b n kd pl vl T l o) := by
  refine ⟨ht, ⟨relT_0 h3 (fun r hr => h16 (3 + r) (by omega) (by omega)), e31, e32, rfl, hc.1, hc.2, ⟨ht.2.1, okN.of (n := 0) rfl (by decide) (by decide), ⟨Or.inl hc.1, okN.of (n := 0) rfl (by decide) (by decide)⟩, ⟨Or.inr hc.2, okN.of (n := 0) rfl (by decide) (by decide)⟩, okN.of (n := 0) rfl (by decide) (by decide), okN.of (n := 0) rfl (by decide) (by decide), Nat.le_refl _, rfl, by decide⟩⟩, ?_⟩
  rw [e20]
  refine ⟨by rw [bt_0]; rfl, by rw [bt_0]; rfl, fun k hk => ?_⟩
  rw [bt_0]
  have e4 : (lForget T.2.2.2).2.1 4 k = 0 := rfl
  have e5 : (lForget T.2.2.2).2.1 5 k = 0 := rfl
  show false = decide (¬ (lForget T.2.2.2).2.1 5 k ≤ (lForget T.2.2.2).2.1 4 k)
  rw [e4, e5]
  rfl
theorem kpS_0 {b : Nat → Int32} {n : Nat} {kd vl : Int32} {pl o : Nat} {T : Tx} {l : List Int32} : kpS 0 0 (-1) (S00 b n kd pl vl T l o) :=
  ⟨Nat.zero_le _, rfl, rfl, ⟨okN.of (n := 0) rfl (by decide) (by decide), fun k hk => absurd hk (by show ¬ k < nat 0; rw [nat_0]; omega)⟩, ⟨okN.of (n := 0) rfl (by decide) (by decide), fun k hk => absurd hk (by show ¬ k < nat 0; rw [nat_0]; omega)⟩⟩
theorem frP.j {s s1 : St} {j : Nat} {v : Int32} (h : frP s s1) (hj : (20 ≤ j ∧ j < 29 ∧ j ≠ 22) ∨ j = 31 ∨ j = 32) : frP s (mI s1 j v) :=
  h.tr ⟨rfl, fun i a => upd_ne (by omega), fun _ _ => rfl, fun _ _ _ _ _ => rfl⟩
/-- rows halved so far -/
def HV (s0 s : St) (m : Nat) : Prop := s.1 = s0.1 ∧ s.2.2 = s0.2.2 ∧ (∀ k, (k < 3 ∨ m ≤ k) → s.2.1 k = s0.2.1 k) ∧ ∀ k, 3 ≤ k → k < m → ∀ i, i < hl k → s.2.1 k i = s0.2.1 k (hl k + i)
theorem HV.rf {s : St} : HV s s 3 := ⟨rfl, rfl, fun _ _ => rfl, fun k h1 h2 => absurd h2 (by omega)⟩
theorem HV.step {s0 s t : St} {m : Nat} (h : HV s0 s m) (h3 : 3 ≤ m) (e : t = hvS s m (hl m) (hl m)) : HV s0 t (m + 1) := by
  subst e
  obtain ⟨h1, h2, h4, h5⟩ := h
  refine ⟨h1, h2, fun k hk => ?_, fun k k3 km i hi => ?_⟩
  · show uR s.2.1 m _ k = _
    rw [uR_j (by omega)]
    exact h4 k (by omega)
  · show uR s.2.1 m _ k i = _
    by_cases e : k = m
    · subst e
      rw [uR_k, if_pos hi, h4 k (Or.inr (Nat.le_refl _))]
    · rw [uR_j e]
      exact h5 k k3 (by omega) i hi
theorem HV.T {s0 s : St} {T : Tx} (h : HV s0 s 20) (hT : relT T (upF s0.2.1)) : relT T s.2.1 := by
  have n1 := hT.1.1.2
  have n2 := hT.2.1.1.2
  have n3 := hT.2.2.1.1.2
  have n4 := hT.2.2.2.1.1.2
  have n5 := hT.2.2.2.2.1.1.2
  have n6 := hT.2.2.2.2.2.2.1.2
  have g := h.2.2.2
  refine hT.ext (fun i hi => g 3 (by decide) (by decide) i hi) (fun i hi => ⟨g 4 (by decide) (by decide) i (by show i < 6; omega), g 5 (by decide) (by decide) i (by show i < 6; omega)⟩) (fun i hi => ⟨g 6 (by decide) (by decide) i (by show i < 12; omega), g 7 (by decide) (by decide) i (by show i < 12; omega)⟩) (fun i hi => ⟨g 8 (by decide) (by decide) i (by show i < 12; omega), g 9 (by decide) (by decide) i (by show i < 12; omega), g 10 (by decide) (by decide) i (by show i < 12; omega)⟩) (fun i hi => ⟨g 11 (by decide) (by decide) i (by show i < 8; omega), g 12 (by decide) (by decide) i (by show i < 8; omega), g 13 (by decide) (by decide) i (by show i < 8; omega)⟩) (fun i hi => ⟨g 14 (by decide) (by decide) i (by show i < 8; omega), g 15 (by decide) (by decide) i (by show i < 8; omega)⟩) (fun i hi => ⟨g 16 (by decide) (by decide) i hi, g 17 (by decide) (by decide) i hi⟩) (fun i hi => ⟨g 18 (by decide) (by decide) i (by show i < 64; omega), g 19 (by decide) (by decide) i (by show i < 64; omega)⟩)
theorem relT.wf {T : Tx} {f : Nat → Nat → Int32} (h : relT T f) (hq : wfQ T) : wfT T := by
  refine ⟨?_, hq.1, hq.2, fun k hk => ?_⟩
  · rw [h.1.2.1]; exact h.1.1
  · obtain ⟨a1, a2, a3, a4, -⟩ := h.2.2.2.2.2.2.2.2.2 k hk
    rw [a1, a2]; exact ⟨a3, a4⟩
/-- a TEXT told: what stands then -/
def TXok (R : Int32 × PS) (s s' : St) : Prop := (∃ j, j ≤ 1000 ∧ R.1 = nI j) ∧ (R.2.2.2.1 = 0 ∧ R.2.2.2.2.1 = -1) ∧ (s'.1 29 = 0 ∧ s'.1 30 = -1) ∧ relT R.2.2.1 s'.2.1 ∧ wfT R.2.2.1 ∧ ((lawsOf R.2).1 0 = (lawsOf R.2).1 1 ∧ R.2.2.1.2.1.1 1 = 12 ∧ R.2.2.1.2.2.1.1 1 = 8) ∧ (s'.1 44 = 0 ∧ s'.1 45 = 0 ∧ s'.1 55 = 0 ∧ s'.1 56 = -1) ∧ (s'.2.1 36 0 = 0 ∧ s'.2.1 37 0 = s'.2.1 3 6 ∧ s'.2.1 38 0 = 0 ∧ s'.2.1 39 0 = 0) ∧ (∀ k p, 40 ≤ k → k ≤ 43 → p < 6 → s'.2.1 k (6 * 0 + p) = 0) ∧ (∀ j, 33 ≤ j → j ≠ 35 → j ≠ 44 → j ≠ 45 → j ≠ 55 → j ≠ 56 → s'.1 j = s.1 j) ∧ ∀ k, (k < 3 ∨ (19 < k ∧ ¬ (36 ≤ k ∧ k ≤ 43))) → s'.2.1 k = s.2.1 k
/-- a TEXT with a FAULT -/
def TXno (R : Int32 × PS) (s s' : St) : Prop := R.1 = -1 ∧ (s'.1 29 = R.2.2.2.1 ∧ s'.1 30 = R.2.2.2.2.1) ∧ (∀ j, 33 ≤ j → s'.1 j = s.1 j) ∧ (∀ k, (k < 3 ∨ 19 < k) → s'.2.1 k = s.2.1 k) ∧ ∀ k, 3 ≤ k → k ≤ 19 → ∀ i, i < hl k → s'.2.1 k i = s.2.1 k i
def TXP (R : Int32 × PS) (s : St) (v : Option Value) (s' : St) : Prop := v = some (.int R.1) ∧ s'.1 0 = 0 ∧ s'.1 2 = 0 ∧ (TXno R s s' ∨ TXok R s s')
set_option maxRecDepth 100000 in
set_option maxHeartbeats 8000000 in
theorem text_M {d n0 a : Nat} {κ : Kd} {h0 : Hp} (hd : 146 ≤ d) {s : St} {x : Int32} {t : Nat} (ht : s.1 2 = nI t) (ht7 : t ≤ 700) (hbb : ∀ k, k < t → ¬ s.2.1 1 k = -1 ∧ s.2.1 1 k < 256) {kd vl : Int32} {pl o : Nat} {T0 : Tx} {l : List Int32} (hc : T0.2.1.1 1 = 12 ∧ T0.2.2.1.1 1 = 8) : MV MX12_text (d, 0, 0, n0, κ) a h0 s 0 [some (.ref a), some (.int (x)), none] [] (fun v s' => ((x < 0 ∨ nI t < x) → v = some (.int (-2)) ∧ s' = mI s 0 0) ∧ ∀ n : Nat, x = nI n → n ≤ t → TXP (readP (s.2.1 1) n (n + 1) 0 (S00 (s.2.1 1) n kd pl vl T0 l o)) s v s') := by
  by_cases hx : x < 0 ∨ nI t < x
  · skip
    refine MV.aload_n dX12_text_0 rfl ?_
    refine MV.iconst (v := 0) dX12_text_1 (by decide) ?_
    refine MV.putf 0 fl_X12_148 dX12_text_2 (by decide) rfl (rfl) (rfl) C12_s0 ?_
    refine MV.iload_n dX12_text_5 rfl ?_
    refine MV.if_lt 17 dX12_text_6 (by decide) (fun c6 => ?_) (fun c6 => ?_)
    · skip
      refine MV.bipush (v := (-2)) dX12_text_17 (by decide) ?_
      refine MV.iret dX12_text_19 rfl ?_
      exact ⟨fun _ => ⟨rfl, rfl⟩, fun n hn hnt => absurd hx (fun y => y.elim (fun z => by rw [hn] at z; exact nI_nlt0 n (by omega) z) (fun z => by rw [hn] at z; exact nI_nlt (a := t) (b := n) hnt (by omega) z))⟩
    · skip
      refine MV.iload_n dX12_text_9 rfl ?_
      refine MV.aload_n dX12_text_10 rfl ?_
      refine MV.getf 2 fl_X12_151 dX12_text_11 (by decide) rfl ?_
      refine MV.icmp_le 20 dX12_text_14 (by decide) (fun z => absurd z (fun z => hx.elim c6 (fun y => Int32.lt_irrefl (Int32.lt_of_lt_of_le y (by rw [← ht]; exact z))))) (fun _ => ?_)
      refine MV.bipush (v := (-2)) dX12_text_17 (by decide) ?_
      refine MV.iret dX12_text_19 rfl ?_
      exact ⟨fun _ => ⟨rfl, rfl⟩, fun n hn hnt => absurd hx (fun y => y.elim (fun z => by rw [hn] at z; exact nI_nlt0 n (by omega) z) (fun z => by rw [hn] at z; exact nI_nlt (a := t) (b := n) hnt (by omega) z))⟩
  · skip
    have hx0 : ¬ x < 0 := fun z => hx (Or.inl z)
    have hxt : x ≤ nI t := Int32.not_lt.mp fun z => hx (Or.inr z)
    obtain ⟨n, hn31, hxn⟩ := nI_of hx0
    have hnt : n ≤ t := by rw [hxn] at hxt; exact (nI_leI hn31 (by omega)).mp hxt
    obtain ⟨R, hRe⟩ : ∃ R, (readP (s.2.1 1) n (n + 1) 0 (S00 (s.2.1 1) n kd pl vl T0 l o)) = R := ⟨_, rfl⟩
    refine MV.aload_n dX12_text_0 rfl ?_
    refine MV.iconst (v := 0) dX12_text_1 (by decide) ?_
    refine MV.putf 0 fl_X12_148 dX12_text_2 (by decide) rfl (rfl) (rfl) C12_s0 ?_
    refine MV.iload_n dX12_text_5 rfl ?_
    refine MV.if_lt 17 dX12_text_6 (by decide) (fun z => absurd z (hx0)) (fun _ => ?_)
    refine MV.iload_n dX12_text_9 rfl ?_
    refine MV.aload_n dX12_text_10 rfl ?_
    refine MV.getf 2 fl_X12_151 dX12_text_11 (by decide) rfl ?_
    refine MV.icmp_le 20 dX12_text_14 (by decide) (fun _ => ?_) (fun z => absurd (by show x ≤ s.1 2; rw [ht]; exact hxt) z)
    refine MV.aload_n dX12_text_20 rfl ?_
    refine MV.iload_n dX12_text_21 rfl ?_
    refine MV.putf 22 fl_X12_157 dX12_text_22 (by decide) rfl (rfl) (rfl) C12_s22 ?_
    refine MV.aload_n dX12_text_25 rfl ?_
    refine MV.iconst (v := 0) dX12_text_26 (by decide) ?_
    refine MV.putf 2 fl_X12_151 dX12_text_27 (by decide) rfl (rfl) (rfl) C12_s2 ?_
    refine MV.aload_n dX12_text_30 rfl ?_
    refine MV.iconst (v := 0) dX12_text_31 (by decide) ?_
    refine MV.putf 23 fl_X12_154 dX12_text_32 (by decide) rfl (rfl) (rfl) C12_s23 ?_
    refine MV.aload_n dX12_text_35 rfl ?_
    refine MV.iconst (v := 0) dX12_text_36 (by decide) ?_
    refine MV.putf 27 fl_X12_202 dX12_text_37 (by decide) rfl (rfl) (rfl) C12_s27 ?_
    refine MV.aload_n dX12_text_40 rfl ?_
    refine MV.iconst (v := (-1)) dX12_text_41 (by decide) ?_
    refine MV.putf 28 fl_X12_205 dX12_text_42 (by decide) rfl (rfl) (rfl) C12_s28 ?_
    refine MV.iconst (v := nI 0) dX12_text_45 (by decide) ?_
    refine MV.istore_n dX12_text_46 (by decide) rfl ?_
    refine MV.weak [some (.ref a), some (.int x), some (.int (nI 0))] (by simp [leL, sto1, sto2, k2c]) (zero1_M (s := (mI (mI (mI (mI (mI (mI s 0 0) 22 x) 2 0) 23 0) 27 0) 28 (-1))) (by omega) (fun s3 a1 a2 a3 a4 => ?_) 8 0 _ (by omega) (fun _ _ => rfl) (fun _ _ => rfl) (fun k hk => absurd hk (by omega)) ⟨rfl, rfl⟩)
    refine MV.iconst (v := nI 3) dX12_text_65 (by decide) ?_
    refine MV.istore_n dX12_text_66 (by decide) rfl ?_
    refine MV.weak [some (.ref a), some (.int x), some (.int (nI 3))] (by simp [leL, sto1, sto2, k2c]) (zero2_M (s := s3) (by omega) (fun s4 b1 b2 b3 b4 => ?_) 3 3 _ (by omega) (fun _ _ _ => rfl) (fun _ _ => ⟨rfl, rfl⟩) (fun k k1 k2 => absurd k2 (by omega)) ⟨rfl, rfl⟩ (by omega))
    have hb5 : s4.2.1 1 = s.2.1 1 := (b1 1 (by decide) (by decide)).trans ((a1 1 (by decide)).trans rfl)
    refine MV.aload_n dX12_text_93 rfl ?_
    refine MV.iconst (v := 0) dX12_text_94 (by decide) ?_
    refine MV.putf 20 fl_X12_231 dX12_text_95 (by decide) rfl (rfl) (rfl) C12_s20 ?_
    refine MV.aload_n dX12_text_98 rfl ?_
    refine MV.iconst (v := 0) dX12_text_99 (by decide) ?_
    refine MV.putf 21 fl_X12_261 dX12_text_100 (by decide) rfl (rfl) (rfl) C12_s21 ?_
    refine MV.aload_n dX12_text_103 rfl ?_
    refine MV.iconst (v := 0) dX12_text_104 (by decide) ?_
    refine MV.putf 31 fl_X12_294 dX12_text_105 (by decide) rfl (rfl) (rfl) C12_s31 ?_
    refine MV.aload_n dX12_text_108 rfl ?_
    refine MV.iconst (v := 0) dX12_text_109 (by decide) ?_
    refine MV.putf 32 fl_X12_267 dX12_text_110 (by decide) rfl (rfl) (rfl) C12_s32 ?_
    refine MV.aload_n dX12_text_113 rfl ?_
    refine MV.cV0 yoX12_token ml_X12_208 im_X12_token se_X12_token dX12_text_114 rfl (Nat.le_of_ble_eq_true rfl) (by omega) rfl (Nat.le_of_ble_eq_true rfl) (tok_M (s := mI (mI (mI (mI s4 20 0) 21 0) 31 0) 32 0) (q := (0, kd, pl, vl)) (n := n) (by omega) ((congrFun (b4.1.trans a4.1) 22).trans hxn) ((congrFun (b4.1.trans a4.1) 23).trans rfl) (by omega) (Nat.zero_le _) (by show ∀ k, k < n → ¬ s4.2.1 1 k = -1 ∧ s4.2.1 1 k < 256; rw [hb5]; exact fun k hk => hbb k (by omega))) ?_
    rintro _ s6 ⟨rfl, f6, t6⟩
    have fB : frP (mI (mI (mI s 0 0) 22 x) 2 0) s6 := by
      have g1 : frP (mI (mI (mI s 0 0) 22 x) 2 0) (mI (mI (mI (mI (mI (mI s 0 0) 22 x) 2 0) 23 0) 27 0) 28 (-1)) := ((frP.rf.j (by decide)).j (by decide)).j (by decide)
      have g2 : frP (mI (mI (mI (mI (mI (mI s 0 0) 22 x) 2 0) 23 0) 27 0) 28 (-1)) s3 := ⟨a4.2, fun j _ => by rw [a4.1], fun k hk => a1 k (by omega), fun k k3 k19 i hi => by
        by_cases e : k = 3
        · subst e; exact a2 i hi
        · rw [a1 k e]⟩
      have g3 : frP s3 s4 := ⟨b4.2, fun j _ => by rw [b4.1], fun k hk => b1 k (by omega) (by omega), fun k k3 k19 i hi => by
        by_cases e : k = 16
        · subst e; exact (b2 i hi).1
        · by_cases e2 : k = 17
          · subst e2; exact (b2 i hi).2
          · rw [b1 k e e2]⟩
      exact (((((((g1.tr g2).tr g3).j (by decide)).j (by decide)).j (by decide)).j (by decide)).k2 f6)
    have ht6 : tkS (s.2.1 1) n s6 (tokN (s.2.1 1) n (0, kd, pl, vl)) := by
      have hb6 : (mI (mI (mI (mI s4 20 0) 21 0) 31 0) 32 0).2.1 1 = s.2.1 1 := hb5
      rw [hb6] at t6
      refine ⟨t6, tokN_le (Nat.zero_le _), ?_, by rw [f6.1]; exact hb5, ?_, ?_⟩
      · rw [f6.2 22 (by decide) (by decide) (by decide) (by decide)]; show s4.1 22 = _; rw [b4.1, a4.1]; exact hxn
      · rw [f6.2 27 (by decide) (by decide) (by decide) (by decide)]; show s4.1 27 = _; rw [b4.1, a4.1]; rfl
      · rw [f6.2 28 (by decide) (by decide) (by decide) (by decide)]; show s4.1 28 = _; rw [b4.1, a4.1]; rfl
    have hr6 : relP (s.2.1 1) n s6 (S00 (s.2.1 1) n kd pl vl T0 l o) := by
      refine relP_0 ht6 (fun k hk => ?_) (fun k k1 k2 => ?_) ((f6.2 20 (by decide) (by decide) (by decide) (by decide)).trans rfl) ((f6.2 31 (by decide) (by decide) (by decide) (by decide)).trans rfl) ((f6.2 32 (by decide) (by decide) (by decide) (by decide)).trans rfl) hc
      · rw [f6.1]; show s4.2.1 3 (8 + k) = 0; rw [b1 3 (by decide) (by decide)]; exact a3 k hk
      · rw [f6.1]; exact b3 k k1 k2
    refine textLoop_M (R := R) (s := s6) (by omega) (by omega) (fun k hk => hbb k (by omega)) (fun s7 f67 hE => ?_) (n + 1) 0 s6 (S00 (s.2.1 1) n kd pl vl T0 l o) (by omega) frP.rf hr6 kpS_0 ((f6.2 21 (by decide) (by decide) (by decide) (by decide)).trans rfl) (fun z => by have h1 : 0 < (tokN (s.2.1 1) n (0, kd, pl, vl)).1 := tokN_gt (q := (0, kd, pl, vl)) z; show n - (tokN (s.2.1 1) n (0, kd, pl, vl)).1 + 1 ≤ n + 1; omega) hRe
    have f7 := fB.tr f67
    rcases hE with hE | ⟨⟨jl, hj1, hjR, hj21⟩, hr7, hk7⟩
    · skip
      refine MV.aload_n dX12_text_139 rfl ?_
      refine MV.aload_n dX12_text_140 rfl ?_
      refine MV.getf 27 fl_X12_202 dX12_text_141 (by decide) rfl ?_
      refine MV.putf 29 fl_X12_300 dX12_text_144 (by decide) rfl (rfl) (rfl) C12_s29 ?_
      refine MV.aload_n dX12_text_147 rfl ?_
      refine MV.aload_n dX12_text_148 rfl ?_
      refine MV.getf 28 fl_X12_205 dX12_text_149 (by decide) rfl ?_
      refine MV.putf 30 fl_X12_64 dX12_text_152 (by decide) rfl (rfl) (rfl) C12_s30 ?_
      refine MV.aload_n dX12_text_155 rfl ?_
      refine MV.getf 27 fl_X12_202 dX12_text_156 (by decide) rfl ?_
      refine MV.if_eq 164 dX12_text_159 (by decide) (fun z => absurd z (hE.2.1)) (fun _ => ?_)
      refine MV.iconst (v := (-1)) dX12_text_162 (by decide) ?_
      refine MV.iret dX12_text_163 rfl ?_
      refine ⟨fun z => absurd z hx, fun n2 hn2 hnt2 => ?_⟩
      have en : n2 = n := nI_eq700 (by omega) (by omega) (hn2.symm.trans hxn)
      subst en
      rw [hRe]
      refine ⟨by rw [hE.1], (f7.2.1 0 (by decide)).trans rfl, (f7.2.1 2 (by decide)).trans rfl, Or.inl ⟨hE.1, ⟨hE.2.2.1, hE.2.2.2⟩, fun j hj => ?_, fun k hk => ?_, fun k k3 k19 i hi => ?_⟩⟩
      · show upd (upd s7.1 29 _) 30 _ j = _
        rw [upd_ne (by omega), upd_ne (by omega), f7.2.1 j (by omega)]
        show upd (upd (upd s.1 0 0) 22 x) 2 0 j = _
        rw [upd_ne (by omega), upd_ne (by omega), upd_ne (by omega)]
      · exact (f7.2.2.1 k hk).trans rfl
      · exact (f7.2.2.2 k k3 k19 i hi).trans rfl
    · skip
      have hf0 := hr7.1.2.2.2.2.1
      obtain ⟨s8, hs8⟩ : ∃ s8, s8 = mI (mI s7 29 (s7.1 27)) 30 ((mI s7 29 (s7.1 27)).1 28) := ⟨_, rfl⟩
      refine MV.aload_n dX12_text_139 rfl ?_
      refine MV.aload_n dX12_text_140 rfl ?_
      refine MV.getf 27 fl_X12_202 dX12_text_141 (by decide) rfl ?_
      refine MV.putf 29 fl_X12_300 dX12_text_144 (by decide) rfl (rfl) (rfl) C12_s29 ?_
      refine MV.aload_n dX12_text_147 rfl ?_
      refine MV.aload_n dX12_text_148 rfl ?_
      refine MV.getf 28 fl_X12_205 dX12_text_149 (by decide) rfl ?_
      refine MV.putf 30 fl_X12_64 dX12_text_152 (by decide) rfl (rfl) (rfl) C12_s30 ?_
      refine MV.aload_n dX12_text_155 rfl ?_
      refine MV.getf 27 fl_X12_202 dX12_text_156 (by decide) rfl ?_
      refine MV.if_eq 164 dX12_text_159 (by decide) (fun _ => ?_) (fun z => absurd (hf0) z)
      rw [← hs8]
      have h3 : HV s8 s8 3 := HV.rf
      refine MV.aload_n dX12_text_164 rfl ?_
      refine MV.getf 3 fl_X12_13 dX12_text_165 (by decide) rfl ?_
      refine MV.cS1w yoX12_half ml_X12_303 st_X12_half dX12_text_168 (Nat.le_of_ble_eq_true rfl) (by omega) rfl (Nat.le_of_ble_eq_true rfl) (half_M (k := 3) (h := hl 3) (by omega) C12_in3 rfl (by decide)) ?_
      rintro _ t4 ⟨rfl, e4⟩
      have h4 := h3.step (by decide) e4
      refine MV.aload_n dX12_text_171 rfl ?_
      refine MV.getf 4 fl_X12_16 dX12_text_172 (by decide) rfl ?_
      refine MV.cS1w yoX12_half ml_X12_303 st_X12_half dX12_text_175 (Nat.le_of_ble_eq_true rfl) (by omega) rfl (Nat.le_of_ble_eq_true rfl) (half_M (k := 4) (h := hl 4) (by omega) C12_in4 rfl (by decide)) ?_
      rintro _ t5 ⟨rfl, e5⟩
      have h5 := h4.step (by decide) e5
      refine MV.aload_n dX12_text_178 rfl ?_
      refine MV.getf 5 fl_X12_19 dX12_text_179 (by decide) rfl ?_
      refine MV.cS1w yoX12_half ml_X12_303 st_X12_half dX12_text_182 (Nat.le_of_ble_eq_true rfl) (by omega) rfl (Nat.le_of_ble_eq_true rfl) (half_M (k := 5) (h := hl 5) (by omega) C12_in5 rfl (by decide)) ?_
      rintro _ t6 ⟨rfl, e6⟩
      have h6 := h5.step (by decide) e6
      refine MV.aload_n dX12_text_185 rfl ?_
      refine MV.getf 6 fl_X12_22 dX12_text_186 (by decide) rfl ?_
      refine MV.cS1w yoX12_half ml_X12_303 st_X12_half dX12_text_189 (Nat.le_of_ble_eq_true rfl) (by omega) rfl (Nat.le_of_ble_eq_true rfl) (half_M (k := 6) (h := hl 6) (by omega) C12_in6 rfl (by decide)) ?_
      rintro _ t7 ⟨rfl, e7⟩
      have h7 := h6.step (by decide) e7
      refine MV.aload_n dX12_text_192 rfl ?_
      refine MV.getf 7 fl_X12_25 dX12_text_193 (by decide) rfl ?_
      refine MV.cS1w yoX12_half ml_X12_303 st_X12_half dX12_text_196 (Nat.le_of_ble_eq_true rfl) (by omega) rfl (Nat.le_of_ble_eq_true rfl) (half_M (k := 7) (h := hl 7) (by omega) C12_in7 rfl (by decide)) ?_
      rintro _ t8 ⟨rfl, e8⟩
      have h8 := h7.step (by decide) e8
      refine MV.aload_n dX12_text_199 rfl ?_
      refine MV.getf 8 fl_X12_28 dX12_text_200 (by decide) rfl ?_
      refine MV.cS1w yoX12_half ml_X12_303 st_X12_half dX12_text_203 (Nat.le_of_ble_eq_true rfl) (by omega) rfl (Nat.le_of_ble_eq_true rfl) (half_M (k := 8) (h := hl 8) (by omega) C12_in8 rfl (by decide)) ?_
      rintro _ t9 ⟨rfl, e9⟩
      have h9 := h8.step (by decide) e9
      refine MV.aload_n dX12_text_206 rfl ?_
      refine MV.getf 9 fl_X12_31 dX12_text_207 (by decide) rfl ?_
      refine MV.cS1w yoX12_half ml_X12_303 st_X12_half dX12_text_210 (Nat.le_of_ble_eq_true rfl) (by omega) rfl (Nat.le_of_ble_eq_true rfl) (half_M (k := 9) (h := hl 9) (by omega) C12_in9 rfl (by decide)) ?_
      rintro _ t10 ⟨rfl, e10⟩
      have h10 := h9.step (by decide) e10
      refine MV.aload_n dX12_text_213 rfl ?_
      refine MV.getf 10 fl_X12_34 dX12_text_214 (by decide) rfl ?_
      refine MV.cS1w yoX12_half ml_X12_303 st_X12_half dX12_text_217 (Nat.le_of_ble_eq_true rfl) (by omega) rfl (Nat.le_of_ble_eq_true rfl) (half_M (k := 10) (h := hl 10) (by omega) C12_in10 rfl (by decide)) ?_
      rintro _ t11 ⟨rfl, e11⟩
      have h11 := h10.step (by decide) e11
      refine MV.aload_n dX12_text_220 rfl ?_
      refine MV.getf 11 fl_X12_37 dX12_text_221 (by decide) rfl ?_
      refine MV.cS1w yoX12_half ml_X12_303 st_X12_half dX12_text_224 (Nat.le_of_ble_eq_true rfl) (by omega) rfl (Nat.le_of_ble_eq_true rfl) (half_M (k := 11) (h := hl 11) (by omega) C12_in11 rfl (by decide)) ?_
      rintro _ t12 ⟨rfl, e12⟩
      have h12 := h11.step (by decide) e12
      refine MV.aload_n dX12_text_227 rfl ?_
      refine MV.getf 12 fl_X12_40 dX12_text_228 (by decide) rfl ?_
      refine MV.cS1w yoX12_half ml_X12_303 st_X12_half dX12_text_231 (Nat.le_of_ble_eq_true rfl) (by omega) rfl (Nat.le_of_ble_eq_true rfl) (half_M (k := 12) (h := hl 12) (by omega) C12_in12 rfl (by decide)) ?_
      rintro _ t13 ⟨rfl, e13⟩
      have h13 := h12.step (by decide) e13
      refine MV.aload_n dX12_text_234 rfl ?_
      refine MV.getf 13 fl_X12_43 dX12_text_235 (by decide) rfl ?_
      refine MV.cS1w yoX12_half ml_X12_303 st_X12_half dX12_text_238 (Nat.le_of_ble_eq_true rfl) (by omega) rfl (Nat.le_of_ble_eq_true rfl) (half_M (k := 13) (h := hl 13) (by omega) C12_in13 rfl (by decide)) ?_
      rintro _ t14 ⟨rfl, e14⟩
      have h14 := h13.step (by decide) e14
      refine MV.aload_n dX12_text_241 rfl ?_
      refine MV.getf 14 fl_X12_46 dX12_text_242 (by decide) rfl ?_
      refine MV.cS1w yoX12_half ml_X12_303 st_X12_half dX12_text_245 (Nat.le_of_ble_eq_true rfl) (by omega) rfl (Nat.le_of_ble_eq_true rfl) (half_M (k := 14) (h := hl 14) (by omega) C12_in14 rfl (by decide)) ?_
      rintro _ t15 ⟨rfl, e15⟩
      have h15 := h14.step (by decide) e15
      refine MV.aload_n dX12_text_248 rfl ?_
      refine MV.getf 15 fl_X12_49 dX12_text_249 (by decide) rfl ?_
      refine MV.cS1w yoX12_half ml_X12_303 st_X12_half dX12_text_252 (Nat.le_of_ble_eq_true rfl) (by omega) rfl (Nat.le_of_ble_eq_true rfl) (half_M (k := 15) (h := hl 15) (by omega) C12_in15 rfl (by decide)) ?_
      rintro _ t16 ⟨rfl, e16⟩
      have h16 := h15.step (by decide) e16
      refine MV.aload_n dX12_text_255 rfl ?_
      refine MV.getf 16 fl_X12_52 dX12_text_256 (by decide) rfl ?_
      refine MV.cS1w yoX12_half ml_X12_303 st_X12_half dX12_text_259 (Nat.le_of_ble_eq_true rfl) (by omega) rfl (Nat.le_of_ble_eq_true rfl) (half_M (k := 16) (h := hl 16) (by omega) C12_in16 rfl (by decide)) ?_
      rintro _ t17 ⟨rfl, e17⟩
      have h17 := h16.step (by decide) e17
      refine MV.aload_n dX12_text_262 rfl ?_
      refine MV.getf 17 fl_X12_55 dX12_text_263 (by decide) rfl ?_
      refine MV.cS1w yoX12_half ml_X12_303 st_X12_half dX12_text_266 (Nat.le_of_ble_eq_true rfl) (by omega) rfl (Nat.le_of_ble_eq_true rfl) (half_M (k := 17) (h := hl 17) (by omega) C12_in17 rfl (by decide)) ?_
      rintro _ t18 ⟨rfl, e18⟩
      have h18 := h17.step (by decide) e18
      refine MV.aload_n dX12_text_269 rfl ?_
      refine MV.getf 18 fl_X12_58 dX12_text_270 (by decide) rfl ?_
      refine MV.cS1w yoX12_half ml_X12_303 st_X12_half dX12_text_273 (Nat.le_of_ble_eq_true rfl) (by omega) rfl (Nat.le_of_ble_eq_true rfl) (half_M (k := 18) (h := hl 18) (by omega) C12_in18 rfl (by decide)) ?_
      rintro _ t19 ⟨rfl, e19⟩
      have h19 := h18.step (by decide) e19
      refine MV.aload_n dX12_text_276 rfl ?_
      refine MV.getf 19 fl_X12_61 dX12_text_277 (by decide) rfl ?_
      refine MV.cS1w yoX12_half ml_X12_303 st_X12_half dX12_text_280 (Nat.le_of_ble_eq_true rfl) (by omega) rfl (Nat.le_of_ble_eq_true rfl) (half_M (k := 19) (h := hl 19) (by omega) C12_in19 rfl (by decide)) ?_
      rintro _ t20 ⟨rfl, e20⟩
      have h20 := h19.step (by decide) e20
      refine MV.aload_n dX12_text_283 rfl ?_
      refine MV.iconst (v := 0) dX12_text_284 (by decide) ?_
      refine MV.putf 55 fl_X12_307 dX12_text_285 (by decide) rfl (rfl) (rfl) C12_s55 ?_
      refine MV.aload_n dX12_text_288 rfl ?_
      refine MV.iconst (v := (-1)) dX12_text_289 (by decide) ?_
      refine MV.putf 56 fl_X12_117 dX12_text_290 (by decide) rfl (rfl) (rfl) C12_s56 ?_
      refine MV.aload_n dX12_text_293 rfl ?_
      refine MV.iconst (v := 0) dX12_text_294 (by decide) ?_
      refine MV.putf 44 fl_X12_310 dX12_text_295 (by decide) rfl (rfl) (rfl) C12_s44 ?_
      refine MV.aload_n dX12_text_298 rfl ?_
      refine MV.iconst (v := 0) dX12_text_299 (by decide) ?_
      refine MV.putf 45 fl_X12_314 dX12_text_300 (by decide) rfl (rfl) (rfl) C12_s45 ?_
      refine MV.aload_n dX12_text_303 rfl ?_
      refine MV.cV0 yoX12_begins ml_X12_145 im_X12_begins se_X12_begins dX12_text_304 rfl (Nat.le_of_ble_eq_true rfl) (by omega) rfl (Nat.le_of_ble_eq_true rfl) (begins_M (by omega)) ?_
      rintro _ u ⟨rfl, fu, zu, ru⟩
      refine MV.aload_n dX12_text_307 rfl ?_
      refine MV.getf 21 fl_X12_261 dX12_text_308 (by decide) rfl ?_
      refine MV.iret dX12_text_311 rfl ?_
      refine ⟨fun z => absurd z hx, fun n2 hn2 hnt2 => ?_⟩
      have en : n2 = n := nI_eq700 (by omega) (by omega) (hn2.symm.trans hxn)
      subst en
      rw [hRe]
      have i8 : ∀ j, 33 ≤ j → j ≠ 44 → j ≠ 45 → j ≠ 55 → j ≠ 56 → (mI (mI (mI (mI t20 55 0) 56 (-1)) 44 0) 45 0).1 j = s.1 j := by
        intro j a1 a2 a3 a4 a5
        show upd (upd (upd (upd t20.1 55 0) 56 (-1)) 44 0) 45 0 j = _
        rw [upd_ne a3, upd_ne a2, upd_ne a5, upd_ne a4, h20.1, hs8]
        show upd (upd s7.1 29 _) 30 _ j = _
        rw [upd_ne (by omega), upd_ne (by omega), f7.2.1 j (by omega)]
        show upd (upd (upd s.1 0 0) 22 x) 2 0 j = _
        rw [upd_ne (by omega), upd_ne (by omega), upd_ne (by omega)]
      have l8 : ∀ j, j < 20 → t20.1 j = (mI (mI (mI s 0 0) 22 x) 2 0).1 j := by
        intro j hj
        rw [h20.1, hs8]
        show upd (upd s7.1 29 _) 30 _ j = _
        rw [upd_ne (by omega), upd_ne (by omega), f7.2.1 j (by omega)]
      have hT20 : relT R.2.2.1 t20.2.1 := h20.T (by rw [hs8]; exact hr7.2.1.1)
      have e21 : u.1 21 = nI jl := by
        rw [fu.1 21 (by decide)]
        show t20.1 21 = _
        rw [h20.1, hs8]
        exact hj21
      have hTu := fu.T (show relT R.2.2.1 (mI (mI (mI (mI t20 55 0) 56 (-1)) 44 0) 45 0).2.1 from hT20)
      refine ⟨by rw [e21, hjR], (fu.1 0 (by decide)).trans ((l8 0 (by decide)).trans rfl), (fu.1 2 (by decide)).trans ((l8 2 (by decide)).trans rfl), Or.inr ⟨⟨jl, hj1, hjR⟩, ⟨hk7.2.1, hk7.2.2.1⟩, ⟨?_, ?_⟩, hTu, hTu.wf hk7.2.2.2, ⟨hr7.2.1.2.2.2.1, hr7.2.1.2.2.2.2.1, hr7.2.1.2.2.2.2.2.1⟩, ⟨(fu.1 44 (by decide)).trans rfl, (fu.1 45 (by decide)).trans rfl, (fu.1 55 (by decide)).trans rfl, (fu.1 56 (by decide)).trans rfl⟩, ⟨zu.1, ?_, zu.2.2.1, zu.2.2.2⟩, ru, fun j a1 a0 a2 a3 a4 a5 => (fu.1 j a0).trans (i8 j a1 a2 a3 a4 a5), fun k hk => ?_⟩⟩
      · rw [fu.1 29 (by decide)]
        show t20.1 29 = 0
        rw [h20.1, hs8]
        exact hf0
      · rw [fu.1 30 (by decide)]
        show t20.1 30 = -1
        rw [h20.1, hs8]
        exact hr7.1.2.2.2.2.2
      · rw [zu.2.1, fu.2.1 3 (by decide)]
      · rw [fu.2.1 k (by omega)]
        show t20.2.1 k = _
        rw [h20.2.2.1 k (by omega), hs8]
        exact (f7.2.2.1 k (by omega)).trans rfl
