/-! Course: lights and blows, wind -/
def nat (x : Int32) : Nat := x.toNatClampNeg
/-- a whole number below b -/
def okN (x : Int32) (b : Nat) : Prop := x = nI (nat x) ∧ nat x < b
theorem okN.of {x : Int32} {n b : Nat} (h : x = nI n) (hn : n < b) (hb : b ≤ 2147483648) : okN x b := by
  have : nat x = n := by rw [h]; exact nI_clamp (by omega)
  exact ⟨by rw [this]; exact h, by omega⟩
abbrev Tx : Type := St × St × St × St
/-- a TEXT at t: what is told, LIGHTS, BLOWS, laws -/
def isT (h : Hp) (t : Nat) (T : Tx) : Prop := isR C8 h t T.1 ∧ isR C2 h (t + 5) T.2.1 ∧ isR C2 h (t + 9) T.2.2.1 ∧ isL h (t + 13) T.2.2.2
def wfD (d : St) (n : Nat) : Prop := okN (d.1 0) 13 ∧ ∀ k, k < nat (d.1 0) → okN (d.2.1 2 k) n ∧ okN (d.2.1 3 k) 2
def wfT (T : Tx) : Prop := okN (T.1.1 0) 7 ∧ wfD T.2.1 (nat (T.1.1 0)) ∧ wfD T.2.2.1 (nat (T.1.1 0)) ∧ ∀ k, k < 3 → okN (T.2.2.2.2.1 4 k) 65 ∧ okN (T.2.2.2.2.1 5 k) 65
theorem isT.kept {h h' : Hp} {t : Nat} {T : Tx} (H : isT h t T) (hk : ∀ b : Nat, t ≤ b → b < t + 19 → h' b = h b) : isT h' t T := by
  obtain ⟨h1, h2, h3, h4⟩ := H
  exact ⟨h1.kept C8_ok (fun b a1 a2 => hk b a1 (by have a3 : b < t + 5 := a2; omega)), h2.kept C2_ok (fun b a1 a2 => hk b (by omega) (by have a3 : b < t + 5 + 4 := a2; omega)), h3.kept C2_ok (fun b a1 a2 => hk b (by omega) (by have a3 : b < t + 9 + 4 := a2; omega)), h4.kept (fun b a1 a2 => hk b (by omega) (by omega))⟩
def kInit (s : St) (t : Nat) (w : Int32) : St := (upd (upd (upd (upd s.1 1 w) 2 (-1)) 3 0) 4 0, s.2.1, s.2.2.1, uN s.2.2.2 0 t)
def lightsF (d : St) (men : Int32) : Nat → Nat → St → St
  | 0, _, c => c
  | k + 1, i, c => lightsF d men k (i + 1) (if dDue d i (c.1 7) men = true then cLightOrIdle c (nat (d.2.1 2 i)) (d.2.1 3 i) else c)
def blowsF (d : St) (men : Int32) : Nat → Nat → St → St
  | 0, _, c => c
  | k + 1, i, c => blowsF d men k (i + 1) (if dDue d i (c.1 7) men = true then cBlowOrIdle c (nat (d.2.1 2 i)) (d.2.1 3 i) else c)
def cLB (T : Tx) (men : Int32) (noBlows : Int32) (c : St) : St :=
  let c1 := lightsF T.2.1 men (nat (T.2.1.1 0)) 0 c
  if noBlows = 0 then blowsF T.2.2.1 men (nat (T.2.2.1.1 0)) 0 c1 else c1
set_option maxRecDepth 100000 in
set_option maxHeartbeats 1000000 in
theorem kBegin_V {d n0 : Nat} {κ : Kd} (hd : 1 ≤ d) {h : Hp} {a t : Nat} {s : St} {w : Int32} (H : isR C1 h a s) : V MX1_begin (d, 0, 0, n0, κ) 0 0 h 0 [some (.ref a), some (.ref (t)), some (.int (w))] [] (fun v h' => v = none ∧ isR C1 h' a (kInit s t w) ∧ ∀ b : Nat, (b < a ∨ a + 1 ≤ b) → h' b = h b) := by
  have hfr : ∀ b : Nat, (b < a ∨ a + 1 ≤ b) → h b = h b := fun _ _ => rfl
  refine V.aload_n dX1_begin_0 rfl ?_
  refine V.aload_n dX1_begin_1 rfl ?_
  refine V.putfH okX1 0 fl_X1_12 dX1_begin_2 (by decide) rfl H.1 (rfl) (rfl) (Nat.le_of_ble_eq_true rfl) (fun h1 eh1 oh1 => ?_)
  have H := isR.setP C1_ok H 0 t (fun _ _ => rfl) eh1 oh1
  have hfr : ∀ b : Nat, (b < a ∨ a + 1 ≤ b) → h1 b = h b := fun b hb => (oh1 b (by omega)).trans (hfr b hb)
  refine V.aload_n dX1_begin_5 rfl ?_
  refine V.iload_n dX1_begin_6 rfl ?_
  refine V.putfH okX1 1 fl_X1_22 dX1_begin_7 (by decide) rfl H.1 (rfl) (rfl) (Nat.le_of_ble_eq_true rfl) (fun h2 eh2 oh2 => ?_)
  have H := isR.setI C1_ok H 1 _ (fun _ _ => rfl) eh2 oh2
  have hfr : ∀ b : Nat, (b < a ∨ a + 1 ≤ b) → h2 b = h b := fun b hb => (oh2 b (by omega)).trans (hfr b hb)
  refine V.aload_n dX1_begin_10 rfl ?_
  refine V.iconst (v := (-1)) dX1_begin_11 (by decide) ?_
  refine V.putfH okX1 2 fl_X1_18 dX1_begin_12 (by decide) rfl H.1 (rfl) (rfl) (Nat.le_of_ble_eq_true rfl) (fun h3 eh3 oh3 => ?_)
  have H := isR.setI C1_ok H 2 _ (fun _ _ => rfl) eh3 oh3
  have hfr : ∀ b : Nat, (b < a ∨ a + 1 ≤ b) → h3 b = h b := fun b hb => (oh3 b (by omega)).trans (hfr b hb)
  refine V.aload_n dX1_begin_15 rfl ?_
  refine V.iconst (v := 0) dX1_begin_16 (by decide) ?_
  refine V.putfH okX1 3 fl_X1_25 dX1_begin_17 (by decide) rfl H.1 (rfl) (rfl) (Nat.le_of_ble_eq_true rfl) (fun h4 eh4 oh4 => ?_)
  have H := isR.setI C1_ok H 3 _ (fun _ _ => rfl) eh4 oh4
  have hfr : ∀ b : Nat, (b < a ∨ a + 1 ≤ b) → h4 b = h b := fun b hb => (oh4 b (by omega)).trans (hfr b hb)
  refine V.aload_n dX1_begin_20 rfl ?_
  refine V.iconst (v := 0) dX1_begin_21 (by decide) ?_
  refine V.putfH okX1 4 fl_X1_29 dX1_begin_22 (by decide) rfl H.1 (rfl) (rfl) (Nat.le_of_ble_eq_true rfl) (fun h5 eh5 oh5 => ?_)
  have H := isR.setI C1_ok H 4 _ (fun _ _ => rfl) eh5 oh5
  have hfr : ∀ b : Nat, (b < a ∨ a + 1 ≤ b) → h5 b = h b := fun b hb => (oh5 b (by omega)).trans (hfr b hb)
  refine V.vret dX1_begin_25 rfl ?_
  exact ⟨rfl, H, hfr⟩
set_option maxRecDepth 100000 in
set_option maxHeartbeats 1000000 in
theorem blows_V {d n0 : Nat} {κ : Kd} (hd : 3 ≤ d) {h : Hp} {a t b0 : Nat} {s R : St} {T : Tx} {men : Int32} (hr : s.2.2.2 0 = t) (hw : wfT T) (hs1 : a < b0 ∨ b0 + 7 ≤ a) (hs2 : t + 19 ≤ b0 ∨ b0 + 7 ≤ t) (hnb : s.1 3 = 0) : ∀ (k i : Nat) (h2 : Hp) (c2 : St), i + k = nat (T.2.2.1.1 0) → isR C1 h2 a s → isR C8 h2 t T.1 → isR C2 h2 (t + 5) T.2.1 → isR C2 h2 (t + 9) T.2.2.1 → isR C0 h2 b0 c2 → (∀ b : Nat, (b < b0 ∨ b0 + 7 ≤ b) → h2 b = h b) → blowsF T.2.2.1 men k i c2 = R → V MX1_lightAndBlow (d, 0, 0, n0, κ) 0 0 h2 70 [some (.ref a), some (.ref (b0)), some (.int (men)), none, some (.ref (t + 9)), some (.int (nI i))] [] (fun v h' => v = none ∧ isR C0 h' b0 R ∧ ∀ b : Nat, (b < b0 ∨ b0 + 7 ≤ b) → h' b = h b) := by
  intro k
  induction k with
  | zero =>
    intro i h2 c2 hik H HT1 HT2 HT3 HC hfr hv
    refine V.iload dX1_lightAndBlow_70 rfl ?_
    refine V.aload dX1_lightAndBlow_72 rfl ?_
    refine V.getf okX2 0 fl_X1_80 dX1_lightAndBlow_74 (by decide) HT3.1 rfl ?_
    refine V.icmp_ge 128 dX1_lightAndBlow_77 (by decide) (fun _ => ?_) (fun z => absurd (by show T.2.2.1.1 0 ≤ nI i; rw [hw.2.2.1.1.1, show i = nat (T.2.2.1.1 0) by omega]; exact nI_le (Nat.le_refl _) (by have := hw.2.2.1.1.2; omega)) z)
    refine V.vret dX1_lightAndBlow_128 rfl ?_
    exact ⟨rfl, by rw [← hv]; exact HC, hfr⟩
  | succ k ih =>
    intro i h2 c2 hik H HT1 HT2 HT3 HC hfr hv
    refine V.iload dX1_lightAndBlow_70 rfl ?_
    refine V.aload dX1_lightAndBlow_72 rfl ?_
    refine V.getf okX2 0 fl_X1_80 dX1_lightAndBlow_74 (by decide) HT3.1 rfl ?_
    refine V.icmp_ge 128 dX1_lightAndBlow_77 (by decide) (fun z => absurd z (by show ¬ T.2.2.1.1 0 ≤ nI i; rw [hw.2.2.1.1.1]; exact nI_ge (by omega) (by have := hw.2.2.1.1.2; omega))) (fun _ => ?_)
    refine V.aload_n dX1_lightAndBlow_80 rfl ?_
    refine V.getf okX1 3 fl_X1_25 dX1_lightAndBlow_81 (by decide) H.1 rfl ?_
    refine V.if_ne 128 dX1_lightAndBlow_84 (by decide) (fun z => absurd (hnb) z) (fun _ => ?_)
    refine V.aload dX1_lightAndBlow_87 rfl ?_
    refine V.iload dX1_lightAndBlow_89 rfl ?_
    refine V.aload_n dX1_lightAndBlow_91 rfl ?_
    refine V.getf okX0 7 fl_X1_73 dX1_lightAndBlow_92 (by decide) HC.1 rfl ?_
    refine V.iload_n dX1_lightAndBlow_95 rfl ?_
    refine V.cV3 (ci := 2) yoX2_isDue ml_X1_85 im_X2_isDue se_X2_isDue dX1_lightAndBlow_96 rfl HT3.1 (Nat.le_of_ble_eq_true rfl) (by omega) ⟨Nat.le_refl _, Nat.le_refl _⟩ rfl (Nat.le_of_ble_eq_true rfl) (dDue_V (by omega) HT3 (by have := hw.2.2.1.1.2; omega)) (V.rdK ?_)
    refine V.if_eq 122 dX1_lightAndBlow_99 (by decide) (fun c99 => ?_) (fun c99 => ?_)
    · skip
      have hv : blowsF T.2.2.1 men k (i + 1) c2 = R := by rw [← hv, blowsF, if_neg (by rw [bI_f c99]; decide)]
      refine V.iinc (v := 1) dX1_lightAndBlow_122 rfl (by decide) (by decide) rfl ?_
      refine V.goto 70 dX1_lightAndBlow_125 (by decide) ?_
      refine V.weak [some (.ref a), some (.ref (b0)), some (.int (men)), none, some (.ref (t + 9)), some (.int (nI (i + 1)))] (by simp [leL, sto1, sto2, k2c, nI_1]) ?_
      exact ih (i + 1) _ _ (by omega) H HT1 HT2 HT3 HC hfr hv
    · skip
      have hv : blowsF T.2.2.1 men k (i + 1) (cBlowOrIdle c2 (nat (T.2.2.1.2.1 2 i)) (T.2.2.1.2.1 3 i)) = R := by rw [← hv, blowsF, if_pos (bI_t c99)]
      have hm := (hw.2.2.1.2 i (by omega)).1
      refine V.aload_n dX1_lightAndBlow_102 rfl ?_
      refine V.aload dX1_lightAndBlow_103 rfl ?_
      refine V.getf okX2 2 fl_X1_89 dX1_lightAndBlow_105 (by decide) HT3.1 rfl ?_
      refine V.iload dX1_lightAndBlow_108 rfl ?_
      refine V.ialdN dX1_lightAndBlow_110 (C2_r2 HT3) (rfl) (by have := hw.2.2.1.1.2; omega) (by decide) ?_
      refine V.aload dX1_lightAndBlow_111 rfl ?_
      refine V.getf okX2 3 fl_X1_93 dX1_lightAndBlow_113 (by decide) HT3.1 rfl ?_
      refine V.iload dX1_lightAndBlow_116 rfl ?_
      refine V.ialdN dX1_lightAndBlow_118 (C2_r3 HT3) (rfl) (by have := hw.2.2.1.1.2; omega) (by decide) ?_
      rw [show T.2.2.1.2.1 2 i = nI (nat (T.2.2.1.2.1 2 i)) from hm.1]
      refine V.cV2 (ci := 0) yoX0_blowOrIdle ml_X1_103 im_X0_blowOrIdle se_X0_blowOrIdle dX1_lightAndBlow_119 rfl HC.1 (Nat.le_of_ble_eq_true rfl) (by omega) ⟨Nat.le_refl _, Nat.le_refl _⟩ rfl (Nat.le_of_ble_eq_true rfl) (blowOrIdle_V (by omega) HC (show nat (T.2.2.1.2.1 2 i) < 6 by have := hw.1.2; have := hm.2; omega)) ?_
      rintro _ h1 ⟨rfl, HC, oh1⟩
      have H := H.kept C1_ok (fun b hb1 hb2 => oh1 b (by have hb3 : b < _ := hb2; simp only [C1] at hb3; omega))
      have HT1 := HT1.kept C8_ok (fun b hb1 hb2 => oh1 b (by have hb3 : b < _ := hb2; simp only [C8] at hb3; omega))
      have HT2 := HT2.kept C2_ok (fun b hb1 hb2 => oh1 b (by have hb3 : b < _ := hb2; simp only [C2] at hb3; omega))
      have HT3 := HT3.kept C2_ok (fun b hb1 hb2 => oh1 b (by have hb3 : b < _ := hb2; simp only [C2] at hb3; omega))
      have hfr : ∀ b : Nat, (b < b0 ∨ b0 + 7 ≤ b) → h1 b = h b := fun b hb => (oh1 b (by omega)).trans (hfr b hb)
      refine V.iinc (v := 1) dX1_lightAndBlow_122 rfl (by decide) (by decide) rfl ?_
      refine V.goto 70 dX1_lightAndBlow_125 (by decide) ?_
      refine V.weak [some (.ref a), some (.ref (b0)), some (.int (men)), none, some (.ref (t + 9)), some (.int (nI (i + 1)))] (by simp [leL, sto1, sto2, k2c, nI_1]) ?_
      exact ih (i + 1) _ _ (by omega) H HT1 HT2 HT3 HC hfr hv
set_option maxRecDepth 100000 in
set_option maxHeartbeats 1000000 in
theorem lightAndBlow_V {d n0 : Nat} {κ : Kd} (hd : 4 ≤ d) {h : Hp} {a t b0 : Nat} {s c : St} {T : Tx} {men : Int32} (H : isR C1 h a s) (hr : s.2.2.2 0 = t) (HT : isT h t T) (hw : wfT T) (HC : isR C0 h b0 c) (hs1 : a < b0 ∨ b0 + 7 ≤ a) (hs2 : t + 19 ≤ b0 ∨ b0 + 7 ≤ t) : V MX1_lightAndBlow (d, 0, 0, n0, κ) 0 0 h 0 [some (.ref a), some (.ref (b0)), some (.int (men)), none, none, none] [] (fun v h' => v = none ∧ isR C0 h' b0 (cLB T men (s.1 3) c) ∧ ∀ b : Nat, (b < b0 ∨ b0 + 7 ≤ b) → h' b = h b) := by
  obtain ⟨HT1, HT2, HT3, HT4⟩ := HT
  refine V.aload_n dX1_lightAndBlow_0 rfl ?_
  refine V.getf (v := .ref (t)) okX1 0 fl_X1_12 dX1_lightAndBlow_1 (by decide) H.1 (congrArg (fun z => some (Value.ref z)) (hr)) ?_
  refine V.getf okX8 7 fl_X1_76 dX1_lightAndBlow_4 (by decide) HT1.1 rfl ?_
  refine V.astore_n dX1_lightAndBlow_7 (by decide) rfl ?_
  refine V.iconst (v := nI 0) dX1_lightAndBlow_8 (by decide) ?_
  refine V.istore dX1_lightAndBlow_9 (by decide) rfl ?_
  suffices hL : ∀ (k i : Nat) (h2 : Hp) (c2 : St), i + k = nat (T.2.1.1 0) → isR C1 h2 a s → isR C8 h2 t T.1 → isR C2 h2 (t + 5) T.2.1 → isR C2 h2 (t + 9) T.2.2.1 → isR C0 h2 b0 c2 → (∀ b : Nat, (b < b0 ∨ b0 + 7 ≤ b) → h2 b = h b) → lightsF T.2.1 men k i c2 = lightsF T.2.1 men (nat (T.2.1.1 0)) 0 c → V MX1_lightAndBlow (d, 0, 0, n0, κ) 0 0 h2 11 [some (.ref a), some (.ref (b0)), some (.int (men)), some (.ref (t + 5)), some (.int (nI i)), none] [] (fun v h' => v = none ∧ isR C0 h' b0 (cLB T men (s.1 3) c) ∧ ∀ b : Nat, (b < b0 ∨ b0 + 7 ≤ b) → h' b = h b) from hL _ 0 h c (by omega) H HT1 HT2 HT3 HC (fun _ _ => rfl) rfl
  intro k
  induction k with
  | zero =>
    intro i h2 c2 hik H HT1 HT2 HT3 HC hfr hv
    refine V.iload dX1_lightAndBlow_11 rfl ?_
    refine V.aload_n dX1_lightAndBlow_13 rfl ?_
    refine V.getf okX2 0 fl_X1_80 dX1_lightAndBlow_14 (by decide) HT2.1 rfl ?_
    refine V.icmp_ge 58 dX1_lightAndBlow_17 (by decide) (fun _ => ?_) (fun z => absurd (by show T.2.1.1 0 ≤ nI i; rw [hw.2.1.1.1, show i = nat (T.2.1.1 0) by omega]; exact nI_le (Nat.le_refl _) (by have := hw.2.1.1.2; omega)) z)
    refine V.aload_n dX1_lightAndBlow_58 rfl ?_
    refine V.getf (v := .ref (t)) okX1 0 fl_X1_12 dX1_lightAndBlow_59 (by decide) H.1 (congrArg (fun z => some (Value.ref z)) (hr)) ?_
    refine V.getf okX8 8 fl_X1_100 dX1_lightAndBlow_62 (by decide) HT1.1 rfl ?_
    refine V.astore dX1_lightAndBlow_65 (by decide) rfl ?_
    refine V.iconst (v := nI 0) dX1_lightAndBlow_67 (by decide) ?_
    refine V.istore dX1_lightAndBlow_68 (by decide) rfl ?_
    rcases Classical.em (s.1 3 = 0) with hnb | hnb
    · have hB := blows_V (d := d) (n0 := n0) (κ := κ) (men := men) (h := h) (R := cLB T men (s.1 3) c) (by omega) hr hw hs1 hs2 hnb (nat (T.2.2.1.1 0)) 0 _ _ (by omega) H HT1 HT2 HT3 HC hfr (by unfold cLB; rw [if_pos hnb, ← hv]; rfl)
      refine V.weak [some (.ref a), some (.ref (b0)), some (.int (men)), none, some (.ref (t + 9)), some (.int (nI 0))] (by simp [leL, sto1, sto2, k2c]) hB
    · have hE : cLB T men (s.1 3) c = c2 := by unfold cLB; rw [if_neg hnb, ← hv]; rfl
      refine V.iload dX1_lightAndBlow_70 rfl ?_
      refine V.aload dX1_lightAndBlow_72 rfl ?_
      refine V.getf okX2 0 fl_X1_80 dX1_lightAndBlow_74 (by decide) HT3.1 rfl ?_
      refine V.icmp_ge 128 dX1_lightAndBlow_77 (by decide) (fun c77 => ?_) (fun c77 => ?_)
      · skip
        refine V.vret dX1_lightAndBlow_128 rfl ?_
        exact ⟨rfl, by rw [hE]; exact HC, hfr⟩
      · skip
        refine V.aload_n dX1_lightAndBlow_80 rfl ?_
        refine V.getf okX1 3 fl_X1_25 dX1_lightAndBlow_81 (by decide) H.1 rfl ?_
        refine V.if_ne 128 dX1_lightAndBlow_84 (by decide) (fun _ => ?_) (fun z => absurd z (hnb))
        refine V.vret dX1_lightAndBlow_128 rfl ?_
        exact ⟨rfl, by rw [hE]; exact HC, hfr⟩
  | succ k ih =>
    intro i h2 c2 hik H HT1 HT2 HT3 HC hfr hv
    refine V.iload dX1_lightAndBlow_11 rfl ?_
    refine V.aload_n dX1_lightAndBlow_13 rfl ?_
    refine V.getf okX2 0 fl_X1_80 dX1_lightAndBlow_14 (by decide) HT2.1 rfl ?_
    refine V.icmp_ge 58 dX1_lightAndBlow_17 (by decide) (fun z => absurd z (by show ¬ T.2.1.1 0 ≤ nI i; rw [hw.2.1.1.1]; exact nI_ge (by omega) (by have := hw.2.1.1.2; omega))) (fun _ => ?_)
    refine V.aload_n dX1_lightAndBlow_20 rfl ?_
    refine V.iload dX1_lightAndBlow_21 rfl ?_
    refine V.aload_n dX1_lightAndBlow_23 rfl ?_
    refine V.getf okX0 7 fl_X1_73 dX1_lightAndBlow_24 (by decide) HC.1 rfl ?_
    refine V.iload_n dX1_lightAndBlow_27 rfl ?_
    refine V.cV3 (ci := 2) yoX2_isDue ml_X1_85 im_X2_isDue se_X2_isDue dX1_lightAndBlow_28 rfl HT2.1 (Nat.le_of_ble_eq_true rfl) (by omega) ⟨Nat.le_refl _, Nat.le_refl _⟩ rfl (Nat.le_of_ble_eq_true rfl) (dDue_V (by omega) HT2 (by have := hw.2.1.1.2; omega)) (V.rdK ?_)
    refine V.if_eq 52 dX1_lightAndBlow_31 (by decide) (fun c31 => ?_) (fun c31 => ?_)
    · skip
      have hv : lightsF T.2.1 men k (i + 1) c2 = lightsF T.2.1 men (nat (T.2.1.1 0)) 0 c := by rw [← hv, lightsF, if_neg (by rw [bI_f c31]; decide)]
      refine V.iinc (v := 1) dX1_lightAndBlow_52 rfl (by decide) (by decide) rfl ?_
      refine V.goto 11 dX1_lightAndBlow_55 (by decide) ?_
      refine V.weak [some (.ref a), some (.ref (b0)), some (.int (men)), some (.ref (t + 5)), some (.int (nI (i + 1))), none] (by simp [leL, sto1, sto2, k2c, nI_1]) ?_
      exact ih (i + 1) _ _ (by omega) H HT1 HT2 HT3 HC hfr hv
    · skip
      have hv : lightsF T.2.1 men k (i + 1) (cLightOrIdle c2 (nat (T.2.1.2.1 2 i)) (T.2.1.2.1 3 i)) = lightsF T.2.1 men (nat (T.2.1.1 0)) 0 c := by rw [← hv, lightsF, if_pos (bI_t c31)]
      have hm := (hw.2.1.2 i (by omega)).1
      refine V.aload_n dX1_lightAndBlow_34 rfl ?_
      refine V.aload_n dX1_lightAndBlow_35 rfl ?_
      refine V.getf okX2 2 fl_X1_89 dX1_lightAndBlow_36 (by decide) HT2.1 rfl ?_
      refine V.iload dX1_lightAndBlow_39 rfl ?_
      refine V.ialdN dX1_lightAndBlow_41 (C2_r2 HT2) (rfl) (by have := hw.2.1.1.2; omega) (by decide) ?_
      refine V.aload_n dX1_lightAndBlow_42 rfl ?_
      refine V.getf okX2 3 fl_X1_93 dX1_lightAndBlow_43 (by decide) HT2.1 rfl ?_
      refine V.iload dX1_lightAndBlow_46 rfl ?_
      refine V.ialdN dX1_lightAndBlow_48 (C2_r3 HT2) (rfl) (by have := hw.2.1.1.2; omega) (by decide) ?_
      rw [show T.2.1.2.1 2 i = nI (nat (T.2.1.2.1 2 i)) from hm.1]
      refine V.cV2 (ci := 0) yoX0_lightOrIdle ml_X1_96 im_X0_lightOrIdle se_X0_lightOrIdle dX1_lightAndBlow_49 rfl HC.1 (Nat.le_of_ble_eq_true rfl) (by omega) ⟨Nat.le_refl _, Nat.le_refl _⟩ rfl (Nat.le_of_ble_eq_true rfl) (lightOrIdle_V (by omega) HC (show nat (T.2.1.2.1 2 i) < 6 by have := hw.1.2; have := hm.2; omega)) ?_
      rintro _ h1 ⟨rfl, HC, oh1⟩
      have H := H.kept C1_ok (fun b hb1 hb2 => oh1 b (by have hb3 : b < _ := hb2; simp only [C1] at hb3; omega))
      have HT1 := HT1.kept C8_ok (fun b hb1 hb2 => oh1 b (by have hb3 : b < _ := hb2; simp only [C8] at hb3; omega))
      have HT2 := HT2.kept C2_ok (fun b hb1 hb2 => oh1 b (by have hb3 : b < _ := hb2; simp only [C2] at hb3; omega))
      have HT3 := HT3.kept C2_ok (fun b hb1 hb2 => oh1 b (by have hb3 : b < _ := hb2; simp only [C2] at hb3; omega))
      have hfr : ∀ b : Nat, (b < b0 ∨ b0 + 7 ≤ b) → h1 b = h b := fun b hb => (oh1 b (by omega)).trans (hfr b hb)
      refine V.iinc (v := 1) dX1_lightAndBlow_52 rfl (by decide) (by decide) rfl ?_
      refine V.goto 11 dX1_lightAndBlow_55 (by decide) ?_
      refine V.weak [some (.ref a), some (.ref (b0)), some (.int (men)), some (.ref (t + 5)), some (.int (nI (i + 1))), none] (by simp [leL, sto1, sto2, k2c, nI_1]) ?_
      exact ih (i + 1) _ _ (by omega) H HT1 HT2 HT3 HC hfr hv
