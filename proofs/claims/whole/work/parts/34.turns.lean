/-! Turns: GAME -/
def isG (h : Hp) (a : Nat) (g nw o1 o2 : Nat → Int32) (p : Int32 × Int32) : Prop := ∃ s : St, isR C9 h a s ∧ s.2.1 2 = g ∧ s.2.1 3 = nw ∧ s.2.1 4 = o1 ∧ s.2.1 5 = o2 ∧ s.1 0 = p.1 ∧ s.1 1 = p.2
def bet (p : Int32 × Int32) (w how : Int32) : Int32 × Int32 := if p.1 < w then (w, how) else p
def settleP (g o1 o2 : Nat → Int32) (fr ln : Nat) : Int32 × Int32 :=
  let p1 : Int32 × Int32 := (g fr - o1 (fr + 1), 1)
  let p2 := if ln ≤ 1 then p1 else bet p1 (g fr + g (fr + 1) - o2 (fr + 2)) 2
  let p3 := bet p2 (g (fr + ln - 1) - o1 fr) 11
  if ln ≤ 1 then p3 else bet p3 (g (fr + ln - 1) + g (fr + ln - 1 - 1) - o2 fr) 12
def rowsF (g : Nat → Int32) : Nat → (Nat → Int32) × (Nat → Int32)
  | 0 => (fun _ => 0, fun _ => 0)
  | n + 1 => (fun fr => (settleP g (rowsF g n).1 (rowsF g n).2 fr (n + 1)).1, (rowsF g n).1)
def gameP (g : Nat → Int32) : Nat → Int32 × Int32
  | 0 => (0, 0)
  | n + 1 => settleP g (rowsF g n).1 (rowsF g n).2 0 (n + 1)
def gainF (x : Int64) (first : Int32) (l : Nat) (k : Nat) : Int32 := if k < l then ((x >>> ((first + nI k).toInt64 &&& 63)) &&& 1).toInt32 else 0
theorem settle_congr {g o1 o2 q1 q2 : Nat → Int32} {fr ln l : Nat} (hl : fr + ln ≤ l) (h1 : 1 ≤ ln) (e1 : ∀ k, k + (ln - 1) ≤ l → o1 k = q1 k) (e2 : ∀ k, 2 ≤ ln → k + (ln - 2) ≤ l → o2 k = q2 k) : settleP g o1 o2 fr ln = settleP g q1 q2 fr ln := by
  unfold settleP
  simp only
  rw [e1 (fr + 1) (by omega), e1 fr (by omega)]
  by_cases h : ln ≤ 1
  · rw [if_pos h, if_pos h]
    simp only [if_pos h]
  · rw [e2 (fr + 2) (by omega) (by omega), e2 fr (by omega) (by omega)]
set_option maxRecDepth 100000 in
set_option maxHeartbeats 1000000 in
theorem bet_V {d n0 : Nat} {κ : Kd} (hd : 1 ≤ d) {h : Hp} {a : Nat} {g nw o1 o2 : Nat → Int32} {p : Int32 × Int32} {w how : Int32} (HG : isG h a g nw o1 o2 p) : V MX9_better (d, 0, 0, n0, κ) 0 0 h 0 [some (.ref a), some (.int (w)), some (.int (how))] [] (fun v h' => v = none ∧ isG h' a g nw o1 o2 (bet p w how) ∧ ∀ b : Nat, (b < a ∨ a + 5 ≤ b) → h' b = h b) := by
  obtain ⟨s, H, hg, hnw, ho1, ho2, hm, hv⟩ := HG
  have hfr : ∀ b : Nat, (b < a ∨ a + 5 ≤ b) → h b = h b := fun _ _ => rfl
  refine V.iload_n dX9_better_0 rfl ?_
  refine V.aload_n dX9_better_1 rfl ?_
  refine V.getf okX9 0 fl_X9_24 dX9_better_2 (by decide) H.1 rfl ?_
  refine V.icmp_le 18 dX9_better_5 (by decide) (fun c5 => ?_) (fun c5 => ?_)
  · skip
    have hle : w ≤ p.1 := by rw [← hm]; exact c5
    refine V.vret dX9_better_18 rfl ?_
    exact ⟨rfl, ⟨_, H, hg, hnw, ho1, ho2, by first | (rw [show bet p w how = p from if_neg (fun z => Int32.not_lt.mpr hle z)]; exact hm) | (rw [show bet p w how = (w, how) from if_pos (Int32.not_le.mp hle)]; rfl), by first | (rw [show bet p w how = p from if_neg (fun z => Int32.not_lt.mpr hle z)]; exact hv) | (rw [show bet p w how = (w, how) from if_pos (Int32.not_le.mp hle)]; rfl)⟩, hfr⟩
  · skip
    have hle : ¬ w ≤ p.1 := by rw [← hm]; exact c5
    refine V.aload_n dX9_better_8 rfl ?_
    refine V.iload_n dX9_better_9 rfl ?_
    refine V.putfH okX9 0 fl_X9_24 dX9_better_10 (by decide) rfl H.1 (rfl) (rfl) (Nat.le_of_ble_eq_true rfl) (fun h1 eh1 oh1 => ?_)
    have H := isR.setI C9_ok H 0 _ (fun _ _ => rfl) eh1 oh1
    have hfr : ∀ b : Nat, (b < a ∨ a + 5 ≤ b) → h1 b = h b := fun b hb => (oh1 b (by omega)).trans (hfr b hb)
    refine V.aload_n dX9_better_13 rfl ?_
    refine V.iload_n dX9_better_14 rfl ?_
    refine V.putfH okX9 1 fl_X9_28 dX9_better_15 (by decide) rfl H.1 (rfl) (rfl) (Nat.le_of_ble_eq_true rfl) (fun h2 eh2 oh2 => ?_)
    have H := isR.setI C9_ok H 1 _ (fun _ _ => rfl) eh2 oh2
    have hfr : ∀ b : Nat, (b < a ∨ a + 5 ≤ b) → h2 b = h b := fun b hb => (oh2 b (by omega)).trans (hfr b hb)
    refine V.vret dX9_better_18 rfl ?_
    exact ⟨rfl, ⟨_, H, hg, hnw, ho1, ho2, by first | (rw [show bet p w how = p from if_neg (fun z => Int32.not_lt.mpr hle z)]; exact hm) | (rw [show bet p w how = (w, how) from if_pos (Int32.not_le.mp hle)]; rfl), by first | (rw [show bet p w how = p from if_neg (fun z => Int32.not_lt.mpr hle z)]; exact hv) | (rw [show bet p w how = (w, how) from if_pos (Int32.not_le.mp hle)]; rfl)⟩, hfr⟩
set_option maxRecDepth 100000 in
set_option maxHeartbeats 2000000 in
theorem settle_V {d n0 : Nat} {κ : Kd} (hd : 2 ≤ d) {h : Hp} {a fr ln : Nat} {g nw o1 o2 : Nat → Int32} {p : Int32 × Int32} (HG : isG h a g nw o1 o2 p) (h1 : 1 ≤ ln) (h2 : fr + ln ≤ 60) : V MX9_settle (d, 0, 0, n0, κ) 0 0 h 0 [some (.ref a), some (.int (nI fr)), some (.int (nI ln)), none] [] (fun v h' => v = none ∧ isG h' a g nw o1 o2 (settleP g o1 o2 fr ln) ∧ ∀ b : Nat, (b < a ∨ a + 5 ≤ b) → h' b = h b) := by
  obtain ⟨s, H, hg, hnw, ho1, ho2, hm, hv⟩ := id HG
  have hfr : ∀ b : Nat, (b < a ∨ a + 5 ≤ b) → h b = h b := fun _ _ => rfl
  refine V.iload_n dX9_settle_0 rfl ?_
  refine V.iload_n dX9_settle_1 rfl ?_
  refine V.iadd dX9_settle_2 ?_
  refine V.iconst (v := nI 1) dX9_settle_3 (by decide) ?_
  refine V.isub dX9_settle_4 ?_
  rw [nI_add, pk_sub (by omega)]
  refine V.istore_n dX9_settle_5 (by decide) rfl ?_
  refine V.aload_n dX9_settle_6 rfl ?_
  refine V.aload_n dX9_settle_7 rfl ?_
  refine V.getf okX9 2 fl_X9_9 dX9_settle_8 (by decide) H.1 rfl ?_
  refine V.iload_n dX9_settle_11 rfl ?_
  refine V.ialdN dX9_settle_12 (C9_r2 H) (rfl) (by omega) (by decide) ?_
  refine V.aload_n dX9_settle_13 rfl ?_
  refine V.getf okX9 4 fl_X9_18 dX9_settle_14 (by decide) H.1 rfl ?_
  refine V.iload_n dX9_settle_17 rfl ?_
  refine V.iconst (v := nI 1) dX9_settle_18 (by decide) ?_
  refine V.iadd dX9_settle_19 ?_
  refine V.ialdN dX9_settle_20 (C9_r4 H) (nI_add _ _) (by omega) (by decide) ?_
  refine V.isub dX9_settle_21 ?_
  rw [hg, ho1]
  refine V.putfH okX9 0 fl_X9_24 dX9_settle_22 (by decide) rfl H.1 (rfl) (rfl) (Nat.le_of_ble_eq_true rfl) (fun h1 eh1 oh1 => ?_)
  have H := isR.setI C9_ok H 0 _ (fun _ _ => rfl) eh1 oh1
  have hfr : ∀ b : Nat, (b < a ∨ a + 5 ≤ b) → h1 b = h b := fun b hb => (oh1 b (by omega)).trans (hfr b hb)
  refine V.aload_n dX9_settle_25 rfl ?_
  refine V.iconst (v := 1) dX9_settle_26 (by decide) ?_
  refine V.putfH okX9 1 fl_X9_28 dX9_settle_27 (by decide) rfl H.1 (rfl) (rfl) (Nat.le_of_ble_eq_true rfl) (fun h2 eh2 oh2 => ?_)
  have H := isR.setI C9_ok H 1 _ (fun _ _ => rfl) eh2 oh2
  have hfr : ∀ b : Nat, (b < a ∨ a + 5 ≤ b) → h2 b = h b := fun b hb => (oh2 b (by omega)).trans (hfr b hb)
  have HG : isG h2 a g nw o1 o2 ((g fr - o1 (fr + 1), 1) : Int32 × Int32) := ⟨_, H, hg, hnw, ho1, ho2, rfl, rfl⟩
  refine V.iload_n dX9_settle_30 rfl ?_
  refine V.iconst (v := nI 1) dX9_settle_31 (by decide) ?_
  refine V.icmp_le 64 dX9_settle_32 (by decide) (fun c32 => ?_) (fun c32 => ?_)
  · skip
    have hln : ln ≤ 1 := (nI_leI (by omega) (by decide)).mp c32
    refine V.aload_n dX9_settle_64 rfl ?_
    refine V.aload_n dX9_settle_65 rfl ?_
    refine V.getf okX9 2 fl_X9_9 dX9_settle_66 (by decide) H.1 rfl ?_
    refine V.iload_n dX9_settle_69 rfl ?_
    refine V.ialdN dX9_settle_70 (C9_r2 H) (rfl) (by omega) (by decide) ?_
    refine V.aload_n dX9_settle_71 rfl ?_
    refine V.getf okX9 4 fl_X9_18 dX9_settle_72 (by decide) H.1 rfl ?_
    refine V.iload_n dX9_settle_75 rfl ?_
    refine V.ialdN dX9_settle_76 (C9_r4 H) (rfl) (by omega) (by decide) ?_
    refine V.isub dX9_settle_77 ?_
    rw [hg, ho1]
    refine V.bipush (v := 11) dX9_settle_78 (by decide) ?_
    refine V.cV2 (ci := 9) yoX9_better ml_X9_47 im_X9_better se_X9_better dX9_settle_80 rfl H.1 (Nat.le_of_ble_eq_true rfl) (by omega) ⟨Nat.le_refl _, Nat.le_refl _⟩ rfl (Nat.le_of_ble_eq_true rfl) (bet_V (by omega) HG) ?_
    rintro _ h23 ⟨rfl, HG, oh23⟩
    obtain ⟨sh23, H, hg, hnw, ho1, ho2, hm, hv⟩ := id HG
    have hfr : ∀ b : Nat, (b < a ∨ a + 5 ≤ b) → h23 b = h b := fun b hb => (oh23 b (by omega)).trans (hfr b hb)
    refine V.iload_n dX9_settle_83 rfl ?_
    refine V.iconst (v := nI 1) dX9_settle_84 (by decide) ?_
    refine V.icmp_le 116 dX9_settle_85 (by decide) (fun _ => ?_) (fun z => absurd (nI_le hln (by decide)) z)
    refine V.vret dX9_settle_116 rfl ?_
    exact ⟨rfl, by unfold settleP; simp only; simp only [if_pos hln]; exact HG, hfr⟩
  · skip
    have hln : ¬ ln ≤ 1 := fun z => c32 (nI_le z (by decide))
    refine V.aload_n dX9_settle_35 rfl ?_
    refine V.aload_n dX9_settle_36 rfl ?_
    refine V.getf okX9 2 fl_X9_9 dX9_settle_37 (by decide) H.1 rfl ?_
    refine V.iload_n dX9_settle_40 rfl ?_
    refine V.ialdN dX9_settle_41 (C9_r2 H) (rfl) (by omega) (by decide) ?_
    refine V.aload_n dX9_settle_42 rfl ?_
    refine V.getf okX9 2 fl_X9_9 dX9_settle_43 (by decide) H.1 rfl ?_
    refine V.iload_n dX9_settle_46 rfl ?_
    refine V.iconst (v := nI 1) dX9_settle_47 (by decide) ?_
    refine V.iadd dX9_settle_48 ?_
    refine V.ialdN dX9_settle_49 (C9_r2 H) (nI_add _ _) (by omega) (by decide) ?_
    refine V.iadd dX9_settle_50 ?_
    refine V.aload_n dX9_settle_51 rfl ?_
    refine V.getf okX9 5 fl_X9_21 dX9_settle_52 (by decide) H.1 rfl ?_
    refine V.iload_n dX9_settle_55 rfl ?_
    refine V.iconst (v := nI 2) dX9_settle_56 (by decide) ?_
    refine V.iadd dX9_settle_57 ?_
    refine V.ialdN dX9_settle_58 (C9_r5 H) (nI_add _ _) (by omega) (by decide) ?_
    refine V.isub dX9_settle_59 ?_
    rw [hg, ho2]
    refine V.iconst (v := 2) dX9_settle_60 (by decide) ?_
    refine V.cV2 (ci := 9) yoX9_better ml_X9_47 im_X9_better se_X9_better dX9_settle_61 rfl H.1 (Nat.le_of_ble_eq_true rfl) (by omega) ⟨Nat.le_refl _, Nat.le_refl _⟩ rfl (Nat.le_of_ble_eq_true rfl) (bet_V (by omega) HG) ?_
    rintro _ h3 ⟨rfl, HG, oh3⟩
    obtain ⟨sh3, H, hg, hnw, ho1, ho2, hm, hv⟩ := id HG
    have hfr : ∀ b : Nat, (b < a ∨ a + 5 ≤ b) → h3 b = h b := fun b hb => (oh3 b (by omega)).trans (hfr b hb)
    refine V.aload_n dX9_settle_64 rfl ?_
    refine V.aload_n dX9_settle_65 rfl ?_
    refine V.getf okX9 2 fl_X9_9 dX9_settle_66 (by decide) H.1 rfl ?_
    refine V.iload_n dX9_settle_69 rfl ?_
    refine V.ialdN dX9_settle_70 (C9_r2 H) (rfl) (by omega) (by decide) ?_
    refine V.aload_n dX9_settle_71 rfl ?_
    refine V.getf okX9 4 fl_X9_18 dX9_settle_72 (by decide) H.1 rfl ?_
    refine V.iload_n dX9_settle_75 rfl ?_
    refine V.ialdN dX9_settle_76 (C9_r4 H) (rfl) (by omega) (by decide) ?_
    refine V.isub dX9_settle_77 ?_
    rw [hg, ho1]
    refine V.bipush (v := 11) dX9_settle_78 (by decide) ?_
    refine V.cV2 (ci := 9) yoX9_better ml_X9_47 im_X9_better se_X9_better dX9_settle_80 rfl H.1 (Nat.le_of_ble_eq_true rfl) (by omega) ⟨Nat.le_refl _, Nat.le_refl _⟩ rfl (Nat.le_of_ble_eq_true rfl) (bet_V (by omega) HG) ?_
    rintro _ h24 ⟨rfl, HG, oh24⟩
    obtain ⟨sh24, H, hg, hnw, ho1, ho2, hm, hv⟩ := id HG
    have hfr : ∀ b : Nat, (b < a ∨ a + 5 ≤ b) → h24 b = h b := fun b hb => (oh24 b (by omega)).trans (hfr b hb)
    refine V.iload_n dX9_settle_83 rfl ?_
    refine V.iconst (v := nI 1) dX9_settle_84 (by decide) ?_
    refine V.icmp_le 116 dX9_settle_85 (by decide) (fun z => absurd z (fun z => hln ((nI_leI (by omega) (by decide)).mp z))) (fun _ => ?_)
    refine V.aload_n dX9_settle_88 rfl ?_
    refine V.aload_n dX9_settle_89 rfl ?_
    refine V.getf okX9 2 fl_X9_9 dX9_settle_90 (by decide) H.1 rfl ?_
    refine V.iload_n dX9_settle_93 rfl ?_
    refine V.ialdN dX9_settle_94 (C9_r2 H) (rfl) (by omega) (by decide) ?_
    refine V.aload_n dX9_settle_95 rfl ?_
    refine V.getf okX9 2 fl_X9_9 dX9_settle_96 (by decide) H.1 rfl ?_
    refine V.iload_n dX9_settle_99 rfl ?_
    refine V.iconst (v := nI 1) dX9_settle_100 (by decide) ?_
    refine V.isub dX9_settle_101 ?_
    refine V.ialdN dX9_settle_102 (C9_r2 H) (pk_sub (by omega)) (by omega) (by decide) ?_
    refine V.iadd dX9_settle_103 ?_
    refine V.aload_n dX9_settle_104 rfl ?_
    refine V.getf okX9 5 fl_X9_21 dX9_settle_105 (by decide) H.1 rfl ?_
    refine V.iload_n dX9_settle_108 rfl ?_
    refine V.ialdN dX9_settle_109 (C9_r5 H) (rfl) (by omega) (by decide) ?_
    refine V.isub dX9_settle_110 ?_
    rw [hg, ho2]
    refine V.bipush (v := 12) dX9_settle_111 (by decide) ?_
    refine V.cV2 (ci := 9) yoX9_better ml_X9_47 im_X9_better se_X9_better dX9_settle_113 rfl H.1 (Nat.le_of_ble_eq_true rfl) (by omega) ⟨Nat.le_refl _, Nat.le_refl _⟩ rfl (Nat.le_of_ble_eq_true rfl) (bet_V (by omega) HG) ?_
    rintro _ h25 ⟨rfl, HG, oh25⟩
    obtain ⟨sh25, H, hg, hnw, ho1, ho2, hm, hv⟩ := id HG
    have hfr : ∀ b : Nat, (b < a ∨ a + 5 ≤ b) → h25 b = h b := fun b hb => (oh25 b (by omega)).trans (hfr b hb)
    refine V.vret dX9_settle_116 rfl ?_
    exact ⟨rfl, by unfold settleP; simp only; simp only [if_neg hln]; exact HG, hfr⟩
