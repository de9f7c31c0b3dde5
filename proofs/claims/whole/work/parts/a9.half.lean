/-! text of the model: half, begins, its loops -/
theorem MV.cS1w {Y Yc : Yd} {d n0 : Nat} {κ : Kd} {a : Nat} {h0 : Hp} {s : St} {pc : Nat} {L : List (Option Value)} {rest : List Value} {P P1 : Option Value → St → Prop} {idx : Nat} {Lc : List (Option Value)} {x1 : Value} (hok : Yok Yc 1) (hlk : Cond.methodLink Y.1.cls idx Yc.1 ∈ BG) (hin : Cond.static Yc.1 ∈ BG) (hdg : decode Y.2.1 pc = .ok (.invokestatic idx, 3)) (hrm : (rest.map fun v => v.category).sum ≤ 8) (hd : 1 ≤ d) (hLc : padL Yc.2.2.1 (entA [x1]) = Lc) (hle : (lg_sl [x1]).length ≤ Yc.2.2.1)
    (hV : MV Yc (d - 1, 0, 0, n0, κ) a h0 s 0 Lc [] P1) (kk : ∀ (v : Option Value) (s' : St), P1 v s' → MV Y (d, 0, 0, n0, κ) a h0 s' (pc + 3) L (v.toList ++ rest) P) : MV Y (d, 0, 0, n0, κ) a h0 s pc L (x1 :: rest) P :=
  fun h H hf => V.cS1 (mc' := 0) (ms' := 0) hok hlk hin hdg hrm hd ⟨Nat.le_refl _, Nat.le_refl _⟩ hLc hle (hV h H hf) (fun v h' ⟨s', p, H', hf'⟩ => kk v s' p h' H' hf')
def hvS (s : St) (k h i : Nat) : St := (s.1, uR s.2.1 k (fun x => if x < i then s.2.1 k (h + x) else s.2.1 k x), s.2.2)
theorem hvS_0 {s : St} {k h : Nat} : hvS s k h 0 = s := by
  have : uR s.2.1 k (fun x => if x < 0 then s.2.1 k (h + x) else s.2.1 k x) = s.2.1 := by
    funext j
    unfold uR
    by_cases e : j = k
    · rw [if_pos e, e]; funext x; rw [if_neg (by omega)]
    · rw [if_neg e]
  show (s.1, uR s.2.1 k _, s.2.2) = s
  rw [this]
theorem uR_k {f : Nat → Nat → Int32} {k x : Nat} {g : Nat → Int32} : uR f k g k x = g x := by
  unfold uR
  rw [if_pos rfl]
theorem uR_j {f : Nat → Nat → Int32} {k j : Nat} {g : Nat → Int32} (h : j ≠ k) : uR f k g j = f j := by
  unfold uR
  rw [if_neg h]
theorem hvS_s {s : St} {k h i : Nat} : mA (hvS s k h i) k i (s.2.1 k (h + i)) = hvS s k h (i + 1) := by
  show (s.1, uA (uR s.2.1 k _) k i _, s.2.2) = (s.1, uR s.2.1 k _, s.2.2)
  have : uA (uR s.2.1 k (fun x => if x < i then s.2.1 k (h + x) else s.2.1 k x)) k i (s.2.1 k (h + i)) = uR s.2.1 k (fun x => if x < i + 1 then s.2.1 k (h + x) else s.2.1 k x) := by
    funext j x
    by_cases e : j = k
    · subst e
      rw [uA_at, uR_k, uR_k]
      by_cases y : x = i
      · rw [if_pos y, if_pos (by omega), y]
      · rw [if_neg y]
        by_cases z : x < i
        · rw [if_pos z, if_pos (by omega)]
        · rw [if_neg z, if_neg (by omega)]
    · rw [uA_ne e, uR_j e, uR_j e]
  rw [this]
theorem hvS_at {s : St} {k h i x : Nat} (hx : i ≤ x) : (hvS s k h i).2.1 k x = s.2.1 k x := by
  show uR s.2.1 k _ k x = _
  rw [uR_k, if_neg (by omega)]
set_option maxRecDepth 100000 in
set_option maxHeartbeats 2000000 in
theorem half_M {d n0 a : Nat} {κ : Kd} {h0 : Hp} (hd : 1 ≤ d) {s : St} {k off N h : Nat} (hq : (k, off, 0, N) ∈ C12.2.2.2) (hN : N = 2 * h) (hh : h ≤ 100) : MV MX12_half (d, 0, 0, n0, κ) a h0 s 0 [some (.ref (a + off)), none, none] [] (fun v s' => v = none ∧ s' = hvS s k h h) := by
  refine MV.aload_n dX12_half_0 rfl ?_
  refine MV.alen0 (v := nI N) hq dX12_half_1 rfl ?_
  refine MV.iconst (v := nI 2) dX12_half_2 (by decide) ?_
  refine MV.idiv dX12_half_3 (by decide) ?_
  refine MV.eqi (nI h) (by rw [pk_div (by omega) (by decide) (by decide), hN]; congr 1; omega) ?_
  refine MV.istore_n dX12_half_4 (by decide) rfl ?_
  refine MV.iconst (v := nI 0) dX12_half_5 (by decide) ?_
  refine MV.istore_n dX12_half_6 (by decide) rfl ?_
  have hL : ∀ (j i : Nat), i + j = h → MV MX12_half (d, 0, 0, n0, κ) a h0 (hvS s k h i) 7 [some (.ref (a + off)), some (.int (nI h)), some (.int (nI i))] [] (fun v s' => v = none ∧ s' = hvS s k h h) := by
    intro j
    induction j with
    | zero =>
      intro i hij
      have : i = h := by omega
      subst this
      refine MV.iload_n dX12_half_7 rfl ?_
      refine MV.iload_n dX12_half_8 rfl ?_
      refine MV.icmp_ge 26 dX12_half_9 (by decide) (fun _ => ?_) (fun z => absurd (nI_le (Nat.le_refl _) (by omega)) z)
      refine MV.vret dX12_half_26 rfl ?_
      exact ⟨rfl, rfl⟩
    | succ j ih =>
      intro i hij
      refine MV.iload_n dX12_half_7 rfl ?_
      refine MV.iload_n dX12_half_8 rfl ?_
      refine MV.icmp_ge 26 dX12_half_9 (by decide) (fun z => absurd z (nI_ge (by omega) (by omega))) (fun _ => ?_)
      refine MV.aload_n dX12_half_12 rfl ?_
      refine MV.iload_n dX12_half_13 rfl ?_
      refine MV.aload_n dX12_half_14 rfl ?_
      refine MV.iload_n dX12_half_15 rfl ?_
      refine MV.iload_n dX12_half_16 rfl ?_
      refine MV.iadd dX12_half_17 ?_
      refine MV.ald hq dX12_half_18 (nI_add h i) (by omega) (by omega) ?_
      refine MV.eqi (s.2.1 k (h + i)) (hvS_at (by omega)) ?_
      refine MV.ast hq dX12_half_19 rfl (by omega) (by omega) ?_
      rw [hvS_s]
      refine MV.iinc (v := 1) dX12_half_20 rfl (by decide) (by decide) rfl ?_
      refine MV.goto 7 dX12_half_23 (by decide) ?_
      exact MV.weak [some (.ref (a + off)), some (.int (nI h)), some (.int (nI (i + 1)))] (by simp [leL, sto1, sto2, k2c, nI_1]) (ih (i + 1) (by omega))
  have h00 := hL h 0 (by omega)
  rw [hvS_0] at h00
  exact h00
set_option maxRecDepth 100000 in
set_option maxHeartbeats 1000000 in
theorem begins_M {d n0 a : Nat} {κ : Kd} {h0 : Hp} (hd : 2 ≤ d) {s : St} : MV MX12_begins (d, 0, 0, n0, κ) a h0 s 0 [some (.ref a)] [] (fun v s' => v = none ∧ frR 0 s s' ∧ (s'.2.1 36 0 = 0 ∧ s'.2.1 37 0 = s.2.1 3 6 ∧ s'.2.1 38 0 = 0 ∧ s'.2.1 39 0 = 0) ∧ ∀ k p, 40 ≤ k → k ≤ 43 → p < 6 → s'.2.1 k (6 * 0 + p) = 0) := by
  refine MV.aload_n dX12_begins_0 rfl ?_
  refine MV.iconst (v := nI 0) dX12_begins_1 (by decide) ?_
  refine MV.cV1 yoX12_starts ml_X12_337 im_X12_starts se_X12_starts dX12_begins_2 rfl (Nat.le_of_ble_eq_true rfl) (by omega) rfl (Nat.le_of_ble_eq_true rfl) (starts_M (by omega) (by decide)) ?_
  rintro _ s1 ⟨rfl, f1, f2, f3⟩
  refine MV.vret dX12_begins_5 rfl ?_
  exact ⟨rfl, f1, f2, f3⟩
set_option maxRecDepth 100000 in
set_option maxHeartbeats 2000000 in
theorem zero1_M {d n0 a : Nat} {κ : Kd} {h0 : Hp} (hd : 2 ≤ d) {s : St} {x : Int32} {P : Option Value → St → Prop} (hk : ∀ s2, (∀ k, k ≠ 3 → s2.2.1 k = s.2.1 k) → (∀ j, j < 8 → s2.2.1 3 j = s.2.1 3 j) → (∀ k, k < 8 → s2.2.1 3 (8 + k) = 0) → (s2.1 = s.1 ∧ s2.2.2 = s.2.2) → MV MX12_text (d, 0, 0, n0, κ) a h0 s2 65 [some (.ref a), some (.int x), none] [] P) : ∀ (k i : Nat) (s2 : St), i + k = 8 → (∀ k, k ≠ 3 → s2.2.1 k = s.2.1 k) → (∀ j, j < 8 → s2.2.1 3 j = s.2.1 3 j) → (∀ k, k < i → s2.2.1 3 (8 + k) = 0) → (s2.1 = s.1 ∧ s2.2.2 = s.2.2) → MV MX12_text (d, 0, 0, n0, κ) a h0 s2 47 [some (.ref a), some (.int x), some (.int (nI i))] [] P := by
  intro k
  induction k with
  | zero =>
    intro i s2 hik h1 h2 h3 h4
    refine MV.iload_n dX12_text_47 rfl ?_
    refine MV.bipush (v := 8) dX12_text_48 (by decide) ?_
    refine MV.icmp_ge 65 dX12_text_50 (by decide) (fun _ => ?_) (fun z => absurd (nI_le (a := 8) (b := i) (by omega) (by omega)) z)
    exact MV.weak [some (.ref a), some (.int x), none] (by simp [leL, sto1, sto2, k2c]) (hk s2 h1 h2 (fun k hk => h3 k (by omega)) h4)
  | succ k ih =>
    intro i s2 hik h1 h2 h3 h4
    have hi8 : i < 8 := by omega
    refine MV.iload_n dX12_text_47 rfl ?_
    refine MV.bipush (v := 8) dX12_text_48 (by decide) ?_
    refine MV.icmp_ge 65 dX12_text_50 (by decide) (fun z => absurd z (nI_ge (a := i) (b := 8) (by omega) (by omega))) (fun _ => ?_)
    refine MV.aload_n dX12_text_53 rfl ?_
    refine MV.iload_n dX12_text_54 rfl ?_
    refine MV.iconst (v := 0) dX12_text_55 (by decide) ?_
    refine MV.cV2 yoX12_reads ml_X12_242 im_X12_reads se_X12_reads dX12_text_56 rfl (Nat.le_of_ble_eq_true rfl) (by omega) rfl (Nat.le_of_ble_eq_true rfl) (reads_M (s := s2) (k := i) (v := 0) (by omega) (by omega)) ?_
    rintro _ _ ⟨rfl, rfl⟩
    refine MV.iinc (v := 1) dX12_text_59 rfl (by decide) (by decide) rfl ?_
    refine MV.goto 47 dX12_text_62 (by decide) ?_
    refine MV.weak [some (.ref a), some (.int x), some (.int (nI (i + 1)))] (by simp [leL, sto1, sto2, k2c, nI_1]) (ih (i + 1) (mA s2 3 (8 + i) 0) (by omega) (fun k hk => (mA_ne hk).trans (h1 k hk)) (fun j hj => by rw [mA_at, if_neg (by omega)]; exact h2 j hj) (fun k hk => ?_) h4)
    rw [mA_at]
    by_cases e : k = i
    · rw [if_pos (by omega)]
    · rw [if_neg (by omega)]; exact h3 k (by omega)
set_option maxRecDepth 100000 in
set_option maxHeartbeats 2000000 in
theorem zero2_M {d n0 a : Nat} {κ : Kd} {h0 : Hp} (hd : 2 ≤ d) {s : St} {x : Int32} {P : Option Value → St → Prop} (hk : ∀ s2, (∀ k, k ≠ 16 → k ≠ 17 → s2.2.1 k = s.2.1 k) → (∀ j, j < 3 → s2.2.1 16 j = s.2.1 16 j ∧ s2.2.1 17 j = s.2.1 17 j) → (∀ k, 3 ≤ k → k < 6 → s2.2.1 16 k = 0 ∧ s2.2.1 17 k = 0) → (s2.1 = s.1 ∧ s2.2.2 = s.2.2) → MV MX12_text (d, 0, 0, n0, κ) a h0 s2 93 [some (.ref a), some (.int x), none] [] P) : ∀ (k i : Nat) (s2 : St), i + k = 6 → (∀ k, k ≠ 16 → k ≠ 17 → s2.2.1 k = s.2.1 k) → (∀ j, j < 3 → s2.2.1 16 j = s.2.1 16 j ∧ s2.2.1 17 j = s.2.1 17 j) → (∀ k, 3 ≤ k → k < i → s2.2.1 16 k = 0 ∧ s2.2.1 17 k = 0) → (s2.1 = s.1 ∧ s2.2.2 = s.2.2) → 3 ≤ i → MV MX12_text (d, 0, 0, n0, κ) a h0 s2 67 [some (.ref a), some (.int x), some (.int (nI i))] [] P := by
  intro k
  induction k with
  | zero =>
    intro i s2 hik h1 h2 h3 h4 h5
    refine MV.iload_n dX12_text_67 rfl ?_
    refine MV.bipush (v := 6) dX12_text_68 (by decide) ?_
    refine MV.icmp_ge 93 dX12_text_70 (by decide) (fun _ => ?_) (fun z => absurd (nI_le (a := 6) (b := i) (by omega) (by omega)) z)
    exact MV.weak [some (.ref a), some (.int x), none] (by simp [leL, sto1, sto2, k2c]) (hk s2 h1 h2 (fun k a c => h3 k a (by omega)) h4)
  | succ k ih =>
    intro i s2 hik h1 h2 h3 h4 h5
    have hi8 : i < 6 := by omega
    refine MV.iload_n dX12_text_67 rfl ?_
    refine MV.bipush (v := 6) dX12_text_68 (by decide) ?_
    refine MV.icmp_ge 93 dX12_text_70 (by decide) (fun z => absurd z (nI_ge (a := i) (b := 6) (by omega) (by omega))) (fun _ => ?_)
    refine MV.aload_n dX12_text_73 rfl ?_
    refine MV.getf 16 fl_X12_52 dX12_text_74 (by decide) rfl ?_
    refine MV.iload_n dX12_text_77 rfl ?_
    refine MV.iconst (v := 0) dX12_text_78 (by decide) ?_
    refine MV.ast C12_in16 dX12_text_79 (rfl) (by omega) (by decide) ?_
    refine MV.aload_n dX12_text_80 rfl ?_
    refine MV.getf 17 fl_X12_55 dX12_text_81 (by decide) rfl ?_
    refine MV.iload_n dX12_text_84 rfl ?_
    refine MV.iconst (v := 0) dX12_text_85 (by decide) ?_
    refine MV.ast C12_in17 dX12_text_86 (rfl) (by omega) (by decide) ?_
    refine MV.iinc (v := 1) dX12_text_87 rfl (by decide) (by decide) rfl ?_
    refine MV.goto 67 dX12_text_90 (by decide) ?_
    refine MV.weak [some (.ref a), some (.int x), some (.int (nI (i + 1)))] (by simp [leL, sto1, sto2, k2c, nI_1]) (ih (i + 1) (mA (mA s2 16 i 0) 17 i 0) (by omega) (fun k a c => ?_) (fun j hj => ⟨?_, ?_⟩) (fun k a c => ⟨?_, ?_⟩) h4 (by omega))
    · rw [mA_ne c, mA_ne a]; exact h1 k a c
    · rw [mA_ne (by decide), mA_at, if_neg (by omega)]; exact (h2 j hj).1
    · rw [mA_at, if_neg (by omega), mA_ne (by decide)]; exact (h2 j hj).2
    · rw [mA_ne (by decide), mA_at]
      by_cases e : k = i
      · rw [if_pos e]
      · rw [if_neg e]; exact (h3 k a (by omega)).1
    · rw [mA_at]
      by_cases e : k = i
      · rw [if_pos e]
      · rw [if_neg e, mA_ne (by decide)]; exact (h3 k a (by omega)).2
def TE (b : Nat → Int32) (n : Nat) (R : Int32 × PS) (s3 : St) : Prop := (R.1 = -1 ∧ ¬ s3.1 27 = 0 ∧ s3.1 27 = R.2.2.2.1 ∧ s3.1 28 = R.2.2.2.2.1) ∨ ((∃ j, j ≤ 1000 ∧ R.1 = nI j ∧ s3.1 21 = nI j) ∧ relP b n s3 R.2 ∧ kpS 0 0 (-1) R.2)
set_option maxRecDepth 100000 in
set_option maxHeartbeats 4000000 in
theorem textLoop_M {d n0 a : Nat} {κ : Kd} {h0 : Hp} (hd : 144 ≤ d) {b : Nat → Int32} {n : Nat} (hn : n ≤ 700) (hbb : ∀ k, k < n → ¬ b k = -1 ∧ b k < 256) {s : St} {x : Int32} {R : Int32 × PS} {P : Option Value → St → Prop} (hk : ∀ s2, frP s s2 → TE b n R s2 → MV MX12_text (d, 0, 0, n0, κ) a h0 s2 139 [some (.ref a), some (.int x), none] [] P) : ∀ (F i : Nat) (s2 : St) (S : PS), i + F ≤ 1000 → frP s s2 → relP b n s2 S → kpS 0 0 (-1) S → s2.1 21 = nI i → (¬ S.1.2.1 = -1 → n - S.1.1 + 1 ≤ F) → readP b n F i S = R → MV MX12_text (d, 0, 0, n0, κ) a h0 s2 117 [some (.ref a), some (.int x), none] [] P := by
  intro F
  induction F with
  | zero =>
    intro i s2 S hF hfr hr hkp hl hfu hRe
    have hz : S.1.2.1 = -1 := Classical.byContradiction fun z => absurd (hfu z) (by omega)
    have hRe : (nI i, S) = R := hRe
    refine MV.aload_n dX12_text_117 rfl ?_
    refine MV.getf 27 fl_X12_202 dX12_text_118 (by decide) rfl ?_
    refine MV.if_ne 139 dX12_text_121 (by decide) (fun z => absurd (hr.1.2.2.2.2.1) z) (fun _ => ?_)
    refine MV.aload_n dX12_text_124 rfl ?_
    refine MV.getf 25 fl_X12_167 dX12_text_125 (by decide) rfl ?_
    refine MV.iconst (v := 4) dX12_text_128 (by decide) ?_
    refine MV.icmp_eq 139 dX12_text_129 (by decide) (fun _ => ?_) (fun z => absurd ((kR_end hr.1.1.2.2).mpr hz) z)
    exact hk s2 hfr (Or.inr ⟨⟨i, by omega, by rw [← hRe], hl⟩, by rw [← hRe]; exact hr, by rw [← hRe]; exact hkp⟩)
  | succ F ih =>
    intro i s2 S hF hfr hr hkp hl hfu hRe
    rw [readP_one] at hRe
    by_cases hz : S.1.2.1 = -1
    · skip
      rw [if_pos hz] at hRe
      refine MV.aload_n dX12_text_117 rfl ?_
      refine MV.getf 27 fl_X12_202 dX12_text_118 (by decide) rfl ?_
      refine MV.if_ne 139 dX12_text_121 (by decide) (fun z => absurd (hr.1.2.2.2.2.1) z) (fun _ => ?_)
      refine MV.aload_n dX12_text_124 rfl ?_
      refine MV.getf 25 fl_X12_167 dX12_text_125 (by decide) rfl ?_
      refine MV.iconst (v := 4) dX12_text_128 (by decide) ?_
      refine MV.icmp_eq 139 dX12_text_129 (by decide) (fun _ => ?_) (fun z => absurd ((kR_end hr.1.1.2.2).mpr hz) z)
      exact hk s2 hfr (Or.inr ⟨⟨i, by omega, by rw [← hRe], hl⟩, by rw [← hRe]; exact hr, by rw [← hRe]; exact hkp⟩)
    · skip
      rw [if_neg hz] at hRe
      have okS0 := hr.2.1.2.2.2.2.2.2
      refine MV.aload_n dX12_text_117 rfl ?_
      refine MV.getf 27 fl_X12_202 dX12_text_118 (by decide) rfl ?_
      refine MV.if_ne 139 dX12_text_121 (by decide) (fun z => absurd (hr.1.2.2.2.2.1) z) (fun _ => ?_)
      refine MV.aload_n dX12_text_124 rfl ?_
      refine MV.getf 25 fl_X12_167 dX12_text_125 (by decide) rfl ?_
      refine MV.iconst (v := 4) dX12_text_128 (by decide) ?_
      refine MV.icmp_eq 139 dX12_text_129 (by decide) (fun z => absurd z (fun z => hz ((kR_end hr.1.1.2.2).mp z))) (fun _ => ?_)
      refine MV.aload_n dX12_text_132 rfl ?_
      refine MV.cV0 yoX12_line ml_X12_297 im_X12_line se_X12_line dX12_text_133 rfl (Nat.le_of_ble_eq_true rfl) (by omega) rfl (Nat.le_of_ble_eq_true rfl) (line_M (by omega) hn hbb hr) ?_
      rintro _ s3 ⟨rfl, f3, hq⟩
      rcases hq with hq | ⟨hq1, hq2, hq3⟩
      · skip
        have hq0 : (oneP b n S).1 = false := hq.1
        rw [if_neg (by rw [hq0]; decide)] at hRe
        refine MV.goto 117 dX12_text_136 (by decide) ?_
        refine MV.aload_n dX12_text_117 rfl ?_
        refine MV.getf 27 fl_X12_202 dX12_text_118 (by decide) rfl ?_
        refine MV.if_ne 139 dX12_text_121 (by decide) (fun _ => ?_) (fun z => absurd z (hq.ne))
        exact hk s3 (hfr.tr f3) (Or.inl ⟨by rw [← hRe], hq.ne, by rw [← hRe]; exact hq.2.2.1, by rw [← hRe]; exact hq.2.2.2⟩)
      · skip
        rw [if_pos hq1] at hRe
        refine MV.goto 117 dX12_text_136 (by decide) ?_
        exact ih (i + 1) s3 (oneP b n S).2 (by omega) (hfr.tr f3) hq2 (kp_one okS0 hkp hq1) (by rw [hq3, hl]; exact nI_1 i) (fun z => by have := one_gt okS0 hkp hq1 z; have := hfu hz; have := hq2.1.2.1; omega) hRe
