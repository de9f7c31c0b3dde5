/-! Pair -/
def isF (h : Hp) (a : Nat) (f : Nat → Int32) : Prop := ∃ s : St, isR C5 h a s ∧ s.2.1 0 = f
theorem isF.kept {h h' : Hp} {a : Nat} {f : Nat → Int32} (H : isF h a f) (hk : ∀ b : Nat, a ≤ b → b < a + 2 → h' b = h b) : isF h' a f := by
  obtain ⟨s, H, e⟩ := H
  exact ⟨s, H.kept C5_ok hk, e⟩
def noteF (f : Nat → Int32) (t e : Int32) : Nat → Int32 := if ¬ t < 1 ∧ ¬ 60 < t ∧ (f (nat t) = 0 ∨ e < f (nat t)) then upd f (nat t) e else f
def timeF (l e : Int32) : Int32 := if e = 0 then 0 else (l + e - 1) / e
def burnOnF (f : Nat → Int32) (t sp l : Int32) (e : Nat) : Nat → Int32 := if l ≤ 0 then f else if e ≤ 1 then noteF (noteF f (t + timeF l (nI 1)) (sp + nI 1)) (t + timeF l (nI 2)) (sp + nI 2) else noteF f (t + timeF l (nI 2)) (sp + nI 2)
def burnSo1 (f : Nat → Int32) (x : Int32) (i : Nat) (y : Int32) (j : Nat) : Nat → Int32 := if 0 < timeF x (nI i) ∧ (timeF y (nI j) = 0 ∨ timeF x (nI i) ≤ timeF y (nI j)) then burnOnF (noteF f (timeF x (nI i)) (nI i + nI j)) (timeF x (nI i)) (nI i) (y - nI j * timeF x (nI i)) j else f
def burnSo2 (f : Nat → Int32) (x : Int32) (i : Nat) (y : Int32) (j : Nat) : Nat → Int32 := if 0 < timeF y (nI j) ∧ (timeF x (nI i) = 0 ∨ timeF y (nI j) ≤ timeF x (nI i)) then burnOnF (noteF f (timeF y (nI j)) (nI i + nI j)) (timeF y (nI j)) (nI j) (x - nI i * timeF y (nI j)) i else f
def burnSoF (f : Nat → Int32) (x : Int32) (i : Nat) (y : Int32) (j : Nat) : Nat → Int32 := burnSo2 (burnSo1 f x i y j) x i y j
def canF (l : Int32) (e : Nat) : Bool := decide (0 < l) || decide (nI e = 0)
def cellF (x y : Int32) (f : Nat → Int32) (i j : Nat) : Nat → Int32 := if canF x i = true ∧ canF y j = true then burnSoF f x i y j else f
def pairF (x y : Int32) : Nat → Int32 := cellF x y (cellF x y (cellF x y (cellF x y (cellF x y (cellF x y (cellF x y (cellF x y (cellF x y (fun _ => 0) 0 0) 0 1) 0 2) 1 0) 1 1) 1 2) 2 0) 2 1) 2 2
theorem in60 {t : Int32} (h1 : ¬ t < 1) (h2 : ¬ 60 < t) : t = nI (nat t) ∧ nat t < 61 := by
  obtain ⟨j, hj, e⟩ := nI_of2 (x := t) (M := 60) (n := 60) (by decide) (fun z => h1 (Int32.lt_trans z (by decide))) (Int32.not_lt.mp h2)
  have : nat t = j := by rw [e]; exact nI_clamp (by omega)
  rw [this]
  exact ⟨e, by omega⟩
set_option maxRecDepth 100000 in
set_option maxHeartbeats 1000000 in
theorem note_V {d n0 : Nat} {κ : Kd} (hd : 1 ≤ d) {h : Hp} {a : Nat} {f : Nat → Int32} {t e : Int32} (HF : isF h a f) : V MX5_note (d, 0, 0, n0, κ) 0 0 h 0 [some (.ref a), some (.int (t)), some (.int (e))] [] (fun v h' => v = none ∧ isF h' a (noteF f t e) ∧ ∀ b : Nat, (b < a ∨ a + 2 ≤ b) → h' b = h b) := by
  obtain ⟨s, H, hf⟩ := HF
  have hfr : ∀ b : Nat, (b < a ∨ a + 2 ≤ b) → h b = h b := fun _ _ => rfl
  refine V.iload_n dX5_note_0 rfl ?_
  refine V.iconst (v := 1) dX5_note_1 (by decide) ?_
  refine V.icmp_lt 37 dX5_note_2 (by decide) (fun c2 => ?_) (fun c2 => ?_)
  · skip
    have hb : ¬ (¬ t < 1 ∧ ¬ 60 < t ∧ (s.2.1 0 (nat t) = 0 ∨ e < s.2.1 0 (nat t))) := fun z => z.1 c2
    refine V.vret dX5_note_37 rfl ?_
    exact ⟨rfl, ⟨_, H, by subst hf; unfold noteF; first | rw [if_neg hb] | (rw [if_pos hb]; rfl)⟩, hfr⟩
  · skip
    refine V.iload_n dX5_note_5 rfl ?_
    refine V.bipush (v := 60) dX5_note_6 (by decide) ?_
    refine V.icmp_gt 37 dX5_note_8 (by decide) (fun c8 => ?_) (fun c8 => ?_)
    · skip
      have hb : ¬ (¬ t < 1 ∧ ¬ 60 < t ∧ (s.2.1 0 (nat t) = 0 ∨ e < s.2.1 0 (nat t))) := fun z => z.2.1 c8
      refine V.vret dX5_note_37 rfl ?_
      exact ⟨rfl, ⟨_, H, by subst hf; unfold noteF; first | rw [if_neg hb] | (rw [if_pos hb]; rfl)⟩, hfr⟩
    · skip
      have ht := in60 c2 c8
      refine V.aload_n dX5_note_11 rfl ?_
      refine V.getf okX5 0 fl_X5_9 dX5_note_12 (by decide) H.1 rfl ?_
      refine V.iload_n dX5_note_15 rfl ?_
      refine V.ialdN dX5_note_16 (C5_r0 H) (ht.1) (ht.2) (by decide) ?_
      refine V.if_eq 30 dX5_note_17 (by decide) (fun c17 => ?_) (fun c17 => ?_)
      · skip
        have hb : ¬ t < 1 ∧ ¬ 60 < t ∧ (s.2.1 0 (nat t) = 0 ∨ e < s.2.1 0 (nat t)) := ⟨c2, c8, Or.inl c17⟩
        refine V.aload_n dX5_note_30 rfl ?_
        refine V.getf okX5 0 fl_X5_9 dX5_note_31 (by decide) H.1 rfl ?_
        refine V.iload_n dX5_note_34 rfl ?_
        refine V.iload_n dX5_note_35 rfl ?_
        refine V.iastH dX5_note_36 (C5_r0 H) (ht.1) (ht.2) (by decide) (fun h1 eh1 oh1 => ?_)
        have H := isR.setA C5_ok H C5_in0 (by decide) _ _ eh1 oh1
        have hfr : ∀ b : Nat, (b < a ∨ a + 2 ≤ b) → h1 b = h b := fun b hb => (oh1 b (by omega)).trans (hfr b hb)
        refine V.vret dX5_note_37 rfl ?_
        exact ⟨rfl, ⟨_, H, by subst hf; unfold noteF; first | rw [if_neg hb] | (rw [if_pos hb]; rfl)⟩, hfr⟩
      · skip
        refine V.iload_n dX5_note_20 rfl ?_
        refine V.aload_n dX5_note_21 rfl ?_
        refine V.getf okX5 0 fl_X5_9 dX5_note_22 (by decide) H.1 rfl ?_
        refine V.iload_n dX5_note_25 rfl ?_
        refine V.ialdN dX5_note_26 (C5_r0 H) (ht.1) (ht.2) (by decide) ?_
        refine V.icmp_ge 37 dX5_note_27 (by decide) (fun c27 => ?_) (fun c27 => ?_)
        · skip
          have hb : ¬ (¬ t < 1 ∧ ¬ 60 < t ∧ (s.2.1 0 (nat t) = 0 ∨ e < s.2.1 0 (nat t))) := fun z => z.2.2.elim c17 (fun q => by have q2 : s.2.1 0 (nat t) ≤ e := c27; exact absurd q (Int32.not_lt.mpr q2))
          refine V.vret dX5_note_37 rfl ?_
          exact ⟨rfl, ⟨_, H, by subst hf; unfold noteF; first | rw [if_neg hb] | (rw [if_pos hb]; rfl)⟩, hfr⟩
        · skip
          have hb : ¬ t < 1 ∧ ¬ 60 < t ∧ (s.2.1 0 (nat t) = 0 ∨ e < s.2.1 0 (nat t)) := ⟨c2, c8, Or.inr (Int32.not_le.mp c27)⟩
          refine V.aload_n dX5_note_30 rfl ?_
          refine V.getf okX5 0 fl_X5_9 dX5_note_31 (by decide) H.1 rfl ?_
          refine V.iload_n dX5_note_34 rfl ?_
          refine V.iload_n dX5_note_35 rfl ?_
          refine V.iastH dX5_note_36 (C5_r0 H) (ht.1) (ht.2) (by decide) (fun h2 eh2 oh2 => ?_)
          have H := isR.setA C5_ok H C5_in0 (by decide) _ _ eh2 oh2
          have hfr : ∀ b : Nat, (b < a ∨ a + 2 ≤ b) → h2 b = h b := fun b hb => (oh2 b (by omega)).trans (hfr b hb)
          refine V.vret dX5_note_37 rfl ?_
          exact ⟨rfl, ⟨_, H, by subst hf; unfold noteF; first | rw [if_neg hb] | (rw [if_pos hb]; rfl)⟩, hfr⟩
set_option maxRecDepth 100000 in
set_option maxHeartbeats 1000000 in
theorem timeF_V {d n0 : Nat} {κ : Kd} (hd : 1 ≤ d) {h : Hp} {x e : Int32} : V MX5_timeOf (d, 0, 0, n0, κ) 0 0 h 0 [some (.int (x)), some (.int (e))] [] (Rd h (.int (timeF x e))) := by
  refine V.iload_n dX5_timeOf_0 rfl ?_
  refine V.if_ne 8 dX5_timeOf_1 (by decide) (fun c1 => ?_) (fun c1 => ?_)
  · skip
    refine V.iload_n dX5_timeOf_8 rfl ?_
    refine V.iload_n dX5_timeOf_9 rfl ?_
    refine V.iadd dX5_timeOf_10 ?_
    refine V.iconst (v := 1) dX5_timeOf_11 (by decide) ?_
    refine V.isub dX5_timeOf_12 ?_
    refine V.iload_n dX5_timeOf_13 rfl ?_
    refine V.idiv dX5_timeOf_14 (c1) ?_
    refine V.iret dX5_timeOf_15 rfl ?_
    exact ⟨by unfold timeF; first | rw [if_neg c1] | rw [if_pos c1], rfl⟩
  · skip
    refine V.iconst (v := 0) dX5_timeOf_4 (by decide) ?_
    refine V.goto 15 dX5_timeOf_5 (by decide) ?_
    refine V.iret dX5_timeOf_15 rfl ?_
    exact ⟨by unfold timeF; first | rw [if_neg c1] | rw [if_pos c1], rfl⟩
set_option maxRecDepth 100000 in
set_option maxHeartbeats 1000000 in
theorem canF_V {d n0 : Nat} {κ : Kd} (hd : 1 ≤ d) {h : Hp} {x : Int32} {i : Nat} : V MX5_canHave (d, 0, 0, n0, κ) 0 0 h 0 [some (.int (x)), some (.int (nI i))] [] (Rd h (.int (bI (canF x i)))) := by
  refine V.iload_n dX5_canHave_0 rfl ?_
  refine V.if_gt 8 dX5_canHave_1 (by decide) (fun c1 => ?_) (fun c1 => ?_)
  · skip
    refine V.iconst (v := 1) dX5_canHave_8 (by decide) ?_
    refine V.goto 13 dX5_canHave_9 (by decide) ?_
    refine V.zret .boolean dX5_canHave_13 rfl (rfl) ?_
    exact ⟨by simp_all [-Int32.not_lt, canF, bI], rfl⟩
  · skip
    refine V.iload_n dX5_canHave_4 rfl ?_
    refine V.if_ne 12 dX5_canHave_5 (by decide) (fun c5 => ?_) (fun c5 => ?_)
    · skip
      refine V.iconst (v := 0) dX5_canHave_12 (by decide) ?_
      refine V.zret .boolean dX5_canHave_13 rfl (rfl) ?_
      exact ⟨by simp_all [-Int32.not_lt, canF, bI], rfl⟩
    · skip
      refine V.iconst (v := 1) dX5_canHave_8 (by decide) ?_
      refine V.goto 13 dX5_canHave_9 (by decide) ?_
      refine V.zret .boolean dX5_canHave_13 rfl (rfl) ?_
      exact ⟨by simp_all [-Int32.not_lt, canF, bI], rfl⟩
set_option maxRecDepth 100000 in
set_option maxHeartbeats 1000000 in
theorem burnOn0_V {d n0 : Nat} {κ : Kd} (hd : 2 ≤ d) {h : Hp} {a : Nat} {f : Nat → Int32} {t sp l : Int32} (HF : isF h a f) : V MX5_burnOn (d, 0, 0, n0, κ) 0 0 h 0 [some (.ref a), some (.int (t)), some (.int (sp)), some (.int (l)), some (.int (nI 0)), none] [] (fun v h' => v = none ∧ isF h' a (burnOnF f t sp l 0) ∧ ∀ b : Nat, (b < a ∨ a + 2 ≤ b) → h' b = h b) := by
  obtain ⟨s, H, hf⟩ := id HF
  have hfr : ∀ b : Nat, (b < a ∨ a + 2 ≤ b) → h b = h b := fun _ _ => rfl
  refine V.iconst (v := nI 1) dX5_burnOn_0 (by decide) ?_
  refine V.iload dX5_burnOn_1 rfl ?_
  refine V.mmax ml_X5_40 st_J9_max_7cf53 ini_J9 co_J9_max_7cf53 dX5_burnOn_3 (by omega) (Nat.le_of_ble_eq_true rfl) ⟨Nat.le_refl _, Nat.le_refl _⟩ ?_
  refine V.istore dX5_burnOn_6 (by decide) rfl ?_
  refine V.weak [some (.ref a), some (.int (t)), some (.int (sp)), some (.int (l)), some (.int (nI 0)), some (.int (nI 1))] (by simp [leL, sto1, sto2, k2c]; try decide) ?_
  refine V.iload dX5_burnOn_8 rfl ?_
  refine V.iconst (v := 2) dX5_burnOn_10 (by decide) ?_
  refine V.icmp_gt 40 dX5_burnOn_11 (by decide) (fun z => absurd z (by decide)) (fun _ => ?_)
  refine V.iload_n dX5_burnOn_14 rfl ?_
  refine V.if_le 40 dX5_burnOn_15 (by decide) (fun c15 => ?_) (fun c15 => ?_)
  · skip
    refine V.vret dX5_burnOn_40 rfl ?_
    exact ⟨rfl, by unfold burnOnF; rw [if_pos c15]; exact HF, hfr⟩
  · skip
    have hl : ¬ l ≤ 0 := c15
    refine V.aload_n dX5_burnOn_18 rfl ?_
    refine V.iload_n dX5_burnOn_19 rfl ?_
    refine V.iload_n dX5_burnOn_20 rfl ?_
    refine V.iload dX5_burnOn_21 rfl ?_
    refine V.cS2 yoX5_timeOf ml_X5_29 st_X5_timeOf dX5_burnOn_23 (Nat.le_of_ble_eq_true rfl) (by omega) ⟨Nat.le_refl _, Nat.le_refl _⟩ rfl (Nat.le_of_ble_eq_true rfl) (timeF_V (by omega)) (V.rdK ?_)
    refine V.iadd dX5_burnOn_26 ?_
    refine V.iload_n dX5_burnOn_27 rfl ?_
    refine V.iload dX5_burnOn_28 rfl ?_
    refine V.iadd dX5_burnOn_30 ?_
    refine V.cV2 (ci := 5) yoX5_note ml_X5_33 im_X5_note se_X5_note dX5_burnOn_31 rfl H.1 (Nat.le_of_ble_eq_true rfl) (by omega) ⟨Nat.le_refl _, Nat.le_refl _⟩ rfl (Nat.le_of_ble_eq_true rfl) (note_V (by omega) HF) ?_
    rintro _ h1 ⟨rfl, HF, oh1⟩
    obtain ⟨sh1, H, hsh1⟩ := id HF
    have hfr : ∀ b : Nat, (b < a ∨ a + 2 ≤ b) → h1 b = h b := fun b hb => (oh1 b (by omega)).trans (hfr b hb)
    refine V.iinc (v := 1) dX5_burnOn_34 rfl (by decide) (by decide) rfl ?_
    refine V.goto 8 dX5_burnOn_37 (by decide) ?_
    refine V.weak [some (.ref a), some (.int (t)), some (.int (sp)), some (.int (l)), some (.int (nI 0)), some (.int (nI 2))] (by simp [leL, sto1, sto2, k2c]; first | rfl | decide) ?_
    refine V.iload dX5_burnOn_8 rfl ?_
    refine V.iconst (v := 2) dX5_burnOn_10 (by decide) ?_
    refine V.icmp_gt 40 dX5_burnOn_11 (by decide) (fun z => absurd z (by decide)) (fun _ => ?_)
    refine V.iload_n dX5_burnOn_14 rfl ?_
    refine V.if_le 40 dX5_burnOn_15 (by decide) (fun z => absurd z (hl)) (fun _ => ?_)
    refine V.aload_n dX5_burnOn_18 rfl ?_
    refine V.iload_n dX5_burnOn_19 rfl ?_
    refine V.iload_n dX5_burnOn_20 rfl ?_
    refine V.iload dX5_burnOn_21 rfl ?_
    refine V.cS2 yoX5_timeOf ml_X5_29 st_X5_timeOf dX5_burnOn_23 (Nat.le_of_ble_eq_true rfl) (by omega) ⟨Nat.le_refl _, Nat.le_refl _⟩ rfl (Nat.le_of_ble_eq_true rfl) (timeF_V (by omega)) (V.rdK ?_)
    refine V.iadd dX5_burnOn_26 ?_
    refine V.iload_n dX5_burnOn_27 rfl ?_
    refine V.iload dX5_burnOn_28 rfl ?_
    refine V.iadd dX5_burnOn_30 ?_
    refine V.cV2 (ci := 5) yoX5_note ml_X5_33 im_X5_note se_X5_note dX5_burnOn_31 rfl H.1 (Nat.le_of_ble_eq_true rfl) (by omega) ⟨Nat.le_refl _, Nat.le_refl _⟩ rfl (Nat.le_of_ble_eq_true rfl) (note_V (by omega) HF) ?_
    rintro _ h12 ⟨rfl, HF, oh12⟩
    obtain ⟨sh12, H, hsh12⟩ := id HF
    have hfr : ∀ b : Nat, (b < a ∨ a + 2 ≤ b) → h12 b = h b := fun b hb => (oh12 b (by omega)).trans (hfr b hb)
    refine V.iinc (v := 1) dX5_burnOn_34 rfl (by decide) (by decide) rfl ?_
    refine V.goto 8 dX5_burnOn_37 (by decide) ?_
    refine V.weak [some (.ref a), some (.int (t)), some (.int (sp)), some (.int (l)), some (.int (nI 0)), some (.int (nI 3))] (by simp [leL, sto1, sto2, k2c]; first | rfl | decide) ?_
    refine V.iload dX5_burnOn_8 rfl ?_
    refine V.iconst (v := 2) dX5_burnOn_10 (by decide) ?_
    refine V.icmp_gt 40 dX5_burnOn_11 (by decide) (fun _ => ?_) (fun z => absurd (by decide) z)
    refine V.vret dX5_burnOn_40 rfl ?_
    exact ⟨rfl, by unfold burnOnF; rw [if_neg hl, if_pos (by omega)]; exact HF, hfr⟩
set_option maxRecDepth 100000 in
set_option maxHeartbeats 1000000 in
theorem burnOn1_V {d n0 : Nat} {κ : Kd} (hd : 2 ≤ d) {h : Hp} {a : Nat} {f : Nat → Int32} {t sp l : Int32} (HF : isF h a f) : V MX5_burnOn (d, 0, 0, n0, κ) 0 0 h 0 [some (.ref a), some (.int (t)), some (.int (sp)), some (.int (l)), some (.int (nI 1)), none] [] (fun v h' => v = none ∧ isF h' a (burnOnF f t sp l 1) ∧ ∀ b : Nat, (b < a ∨ a + 2 ≤ b) → h' b = h b) := by
  obtain ⟨s, H, hf⟩ := id HF
  have hfr : ∀ b : Nat, (b < a ∨ a + 2 ≤ b) → h b = h b := fun _ _ => rfl
  refine V.iconst (v := nI 1) dX5_burnOn_0 (by decide) ?_
  refine V.iload dX5_burnOn_1 rfl ?_
  refine V.mmax ml_X5_40 st_J9_max_7cf53 ini_J9 co_J9_max_7cf53 dX5_burnOn_3 (by omega) (Nat.le_of_ble_eq_true rfl) ⟨Nat.le_refl _, Nat.le_refl _⟩ ?_
  refine V.istore dX5_burnOn_6 (by decide) rfl ?_
  refine V.weak [some (.ref a), some (.int (t)), some (.int (sp)), some (.int (l)), some (.int (nI 1)), some (.int (nI 1))] (by simp [leL, sto1, sto2, k2c]; try decide) ?_
  refine V.iload dX5_burnOn_8 rfl ?_
  refine V.iconst (v := 2) dX5_burnOn_10 (by decide) ?_
  refine V.icmp_gt 40 dX5_burnOn_11 (by decide) (fun z => absurd z (by decide)) (fun _ => ?_)
  refine V.iload_n dX5_burnOn_14 rfl ?_
  refine V.if_le 40 dX5_burnOn_15 (by decide) (fun c15 => ?_) (fun c15 => ?_)
  · skip
    refine V.vret dX5_burnOn_40 rfl ?_
    exact ⟨rfl, by unfold burnOnF; rw [if_pos c15]; exact HF, hfr⟩
  · skip
    have hl : ¬ l ≤ 0 := c15
    refine V.aload_n dX5_burnOn_18 rfl ?_
    refine V.iload_n dX5_burnOn_19 rfl ?_
    refine V.iload_n dX5_burnOn_20 rfl ?_
    refine V.iload dX5_burnOn_21 rfl ?_
    refine V.cS2 yoX5_timeOf ml_X5_29 st_X5_timeOf dX5_burnOn_23 (Nat.le_of_ble_eq_true rfl) (by omega) ⟨Nat.le_refl _, Nat.le_refl _⟩ rfl (Nat.le_of_ble_eq_true rfl) (timeF_V (by omega)) (V.rdK ?_)
    refine V.iadd dX5_burnOn_26 ?_
    refine V.iload_n dX5_burnOn_27 rfl ?_
    refine V.iload dX5_burnOn_28 rfl ?_
    refine V.iadd dX5_burnOn_30 ?_
    refine V.cV2 (ci := 5) yoX5_note ml_X5_33 im_X5_note se_X5_note dX5_burnOn_31 rfl H.1 (Nat.le_of_ble_eq_true rfl) (by omega) ⟨Nat.le_refl _, Nat.le_refl _⟩ rfl (Nat.le_of_ble_eq_true rfl) (note_V (by omega) HF) ?_
    rintro _ h1 ⟨rfl, HF, oh1⟩
    obtain ⟨sh1, H, hsh1⟩ := id HF
    have hfr : ∀ b : Nat, (b < a ∨ a + 2 ≤ b) → h1 b = h b := fun b hb => (oh1 b (by omega)).trans (hfr b hb)
    refine V.iinc (v := 1) dX5_burnOn_34 rfl (by decide) (by decide) rfl ?_
    refine V.goto 8 dX5_burnOn_37 (by decide) ?_
    refine V.weak [some (.ref a), some (.int (t)), some (.int (sp)), some (.int (l)), some (.int (nI 1)), some (.int (nI 2))] (by simp [leL, sto1, sto2, k2c]; first | rfl | decide) ?_
    refine V.iload dX5_burnOn_8 rfl ?_
    refine V.iconst (v := 2) dX5_burnOn_10 (by decide) ?_
    refine V.icmp_gt 40 dX5_burnOn_11 (by decide) (fun z => absurd z (by decide)) (fun _ => ?_)
    refine V.iload_n dX5_burnOn_14 rfl ?_
    refine V.if_le 40 dX5_burnOn_15 (by decide) (fun z => absurd z (hl)) (fun _ => ?_)
    refine V.aload_n dX5_burnOn_18 rfl ?_
    refine V.iload_n dX5_burnOn_19 rfl ?_
    refine V.iload_n dX5_burnOn_20 rfl ?_
    refine V.iload dX5_burnOn_21 rfl ?_
    refine V.cS2 yoX5_timeOf ml_X5_29 st_X5_timeOf dX5_burnOn_23 (Nat.le_of_ble_eq_true rfl) (by omega) ⟨Nat.le_refl _, Nat.le_refl _⟩ rfl (Nat.le_of_ble_eq_true rfl) (timeF_V (by omega)) (V.rdK ?_)
    refine V.iadd dX5_burnOn_26 ?_
    refine V.iload_n dX5_burnOn_27 rfl ?_
    refine V.iload dX5_burnOn_28 rfl ?_
    refine V.iadd dX5_burnOn_30 ?_
    refine V.cV2 (ci := 5) yoX5_note ml_X5_33 im_X5_note se_X5_note dX5_burnOn_31 rfl H.1 (Nat.le_of_ble_eq_true rfl) (by omega) ⟨Nat.le_refl _, Nat.le_refl _⟩ rfl (Nat.le_of_ble_eq_true rfl) (note_V (by omega) HF) ?_
    rintro _ h12 ⟨rfl, HF, oh12⟩
    obtain ⟨sh12, H, hsh12⟩ := id HF
    have hfr : ∀ b : Nat, (b < a ∨ a + 2 ≤ b) → h12 b = h b := fun b hb => (oh12 b (by omega)).trans (hfr b hb)
    refine V.iinc (v := 1) dX5_burnOn_34 rfl (by decide) (by decide) rfl ?_
    refine V.goto 8 dX5_burnOn_37 (by decide) ?_
    refine V.weak [some (.ref a), some (.int (t)), some (.int (sp)), some (.int (l)), some (.int (nI 1)), some (.int (nI 3))] (by simp [leL, sto1, sto2, k2c]; first | rfl | decide) ?_
    refine V.iload dX5_burnOn_8 rfl ?_
    refine V.iconst (v := 2) dX5_burnOn_10 (by decide) ?_
    refine V.icmp_gt 40 dX5_burnOn_11 (by decide) (fun _ => ?_) (fun z => absurd (by decide) z)
    refine V.vret dX5_burnOn_40 rfl ?_
    exact ⟨rfl, by unfold burnOnF; rw [if_neg hl, if_pos (by omega)]; exact HF, hfr⟩
set_option maxRecDepth 100000 in
set_option maxHeartbeats 1000000 in
theorem burnOn2_V {d n0 : Nat} {κ : Kd} (hd : 2 ≤ d) {h : Hp} {a : Nat} {f : Nat → Int32} {t sp l : Int32} (HF : isF h a f) : V MX5_burnOn (d, 0, 0, n0, κ) 0 0 h 0 [some (.ref a), some (.int (t)), some (.int (sp)), some (.int (l)), some (.int (nI 2)), none] [] (fun v h' => v = none ∧ isF h' a (burnOnF f t sp l 2) ∧ ∀ b : Nat, (b < a ∨ a + 2 ≤ b) → h' b = h b) := by
  obtain ⟨s, H, hf⟩ := id HF
  have hfr : ∀ b : Nat, (b < a ∨ a + 2 ≤ b) → h b = h b := fun _ _ => rfl
  refine V.iconst (v := nI 1) dX5_burnOn_0 (by decide) ?_
  refine V.iload dX5_burnOn_1 rfl ?_
  refine V.mmax ml_X5_40 st_J9_max_7cf53 ini_J9 co_J9_max_7cf53 dX5_burnOn_3 (by omega) (Nat.le_of_ble_eq_true rfl) ⟨Nat.le_refl _, Nat.le_refl _⟩ ?_
  refine V.istore dX5_burnOn_6 (by decide) rfl ?_
  refine V.weak [some (.ref a), some (.int (t)), some (.int (sp)), some (.int (l)), some (.int (nI 2)), some (.int (nI 2))] (by simp [leL, sto1, sto2, k2c]; try decide) ?_
  refine V.iload dX5_burnOn_8 rfl ?_
  refine V.iconst (v := 2) dX5_burnOn_10 (by decide) ?_
  refine V.icmp_gt 40 dX5_burnOn_11 (by decide) (fun z => absurd z (by decide)) (fun _ => ?_)
  refine V.iload_n dX5_burnOn_14 rfl ?_
  refine V.if_le 40 dX5_burnOn_15 (by decide) (fun c15 => ?_) (fun c15 => ?_)
  · skip
    refine V.vret dX5_burnOn_40 rfl ?_
    exact ⟨rfl, by unfold burnOnF; rw [if_pos c15]; exact HF, hfr⟩
  · skip
    have hl : ¬ l ≤ 0 := c15
    refine V.aload_n dX5_burnOn_18 rfl ?_
    refine V.iload_n dX5_burnOn_19 rfl ?_
    refine V.iload_n dX5_burnOn_20 rfl ?_
    refine V.iload dX5_burnOn_21 rfl ?_
    refine V.cS2 yoX5_timeOf ml_X5_29 st_X5_timeOf dX5_burnOn_23 (Nat.le_of_ble_eq_true rfl) (by omega) ⟨Nat.le_refl _, Nat.le_refl _⟩ rfl (Nat.le_of_ble_eq_true rfl) (timeF_V (by omega)) (V.rdK ?_)
    refine V.iadd dX5_burnOn_26 ?_
    refine V.iload_n dX5_burnOn_27 rfl ?_
    refine V.iload dX5_burnOn_28 rfl ?_
    refine V.iadd dX5_burnOn_30 ?_
    refine V.cV2 (ci := 5) yoX5_note ml_X5_33 im_X5_note se_X5_note dX5_burnOn_31 rfl H.1 (Nat.le_of_ble_eq_true rfl) (by omega) ⟨Nat.le_refl _, Nat.le_refl _⟩ rfl (Nat.le_of_ble_eq_true rfl) (note_V (by omega) HF) ?_
    rintro _ h1 ⟨rfl, HF, oh1⟩
    obtain ⟨sh1, H, hsh1⟩ := id HF
    have hfr : ∀ b : Nat, (b < a ∨ a + 2 ≤ b) → h1 b = h b := fun b hb => (oh1 b (by omega)).trans (hfr b hb)
    refine V.iinc (v := 1) dX5_burnOn_34 rfl (by decide) (by decide) rfl ?_
    refine V.goto 8 dX5_burnOn_37 (by decide) ?_
    refine V.weak [some (.ref a), some (.int (t)), some (.int (sp)), some (.int (l)), some (.int (nI 2)), some (.int (nI 3))] (by simp [leL, sto1, sto2, k2c]; first | rfl | decide) ?_
    refine V.iload dX5_burnOn_8 rfl ?_
    refine V.iconst (v := 2) dX5_burnOn_10 (by decide) ?_
    refine V.icmp_gt 40 dX5_burnOn_11 (by decide) (fun _ => ?_) (fun z => absurd (by decide) z)
    refine V.vret dX5_burnOn_40 rfl ?_
    exact ⟨rfl, by unfold burnOnF; rw [if_neg hl, if_neg (by omega)]; exact HF, hfr⟩
theorem burnOn_V {d n0 : Nat} {κ : Kd} (hd : 2 ≤ d) {h : Hp} {a : Nat} {f : Nat → Int32} {t sp l : Int32} {e : Nat} (he : e ≤ 2) (HF : isF h a f) : V MX5_burnOn (d, 0, 0, n0, κ) 0 0 h 0 [some (.ref a), some (.int t), some (.int sp), some (.int l), some (.int (nI e)), none] [] (fun v h' => v = none ∧ isF h' a (burnOnF f t sp l e) ∧ ∀ b : Nat, (b < a ∨ a + 2 ≤ b) → h' b = h b) := by
  rcases (show e = 0 ∨ e = 1 ∨ e = 2 by omega) with rfl | rfl | rfl
  · exact burnOn0_V hd HF
  · exact burnOn1_V hd HF
  · exact burnOn2_V hd HF
