/-! Pair: two candles -/
set_option maxRecDepth 100000 in
set_option maxHeartbeats 1000000 in
theorem burnSo_V {d n0 : Nat} {κ : Kd} (hd : 3 ≤ d) {h : Hp} {a i j : Nat} {f : Nat → Int32} {x y : Int32} (hi : i ≤ 2) (hj : j ≤ 2) (HF : isF h a f) : V MX5_burnSo (d, 0, 0, n0, κ) 0 0 h 0 [some (.ref a), some (.int (x)), some (.int (nI i)), some (.int (y)), some (.int (nI j)), none, none] [] (fun v h' => v = none ∧ isF h' a (burnSoF f x i y j) ∧ ∀ b : Nat, (b < a ∨ a + 2 ≤ b) → h' b = h b) := by
  have hJ : ∀ (h2 : Hp) (f1 : Nat → Int32), isF h2 a f1 → (∀ b : Nat, (b < a ∨ a + 2 ≤ b) → h2 b = h b) → burnSo1 f x i y j = f1 → V MX5_burnSo (d, 0, 0, n0, κ) 0 0 h2 58 [some (.ref a), some (.int (x)), some (.int (nI i)), some (.int (y)), some (.int (nI j)), some (.int (timeF x (nI i))), some (.int (timeF y (nI j)))] [] (fun v h' => v = none ∧ isF h' a (burnSoF f x i y j) ∧ ∀ b : Nat, (b < a ∨ a + 2 ≤ b) → h' b = h b) := by
    intro h2 f1 HF hfr hf1
    obtain ⟨s, H, hf⟩ := id HF
    refine V.iload dX5_burnSo_58 rfl ?_
    refine V.if_le 100 dX5_burnSo_60 (by decide) (fun c60 => ?_) (fun c60 => ?_)
    · skip
      have hE : burnSo2 f1 x i y j = f1 := by unfold burnSo2; exact if_neg (fun z => Int32.not_lt.mpr c60 z.1)
      refine V.vret dX5_burnSo_100 rfl ?_
      exact ⟨rfl, by unfold burnSoF; rw [hf1, hE]; exact HF, hfr⟩
    · skip
      refine V.iload dX5_burnSo_63 rfl ?_
      refine V.if_eq 75 dX5_burnSo_65 (by decide) (fun c65 => ?_) (fun c65 => ?_)
      · skip
        have hb : 0 < timeF y (nI j) ∧ (timeF x (nI i) = 0 ∨ timeF y (nI j) ≤ timeF x (nI i)) := ⟨Int32.not_le.mp c60, Or.inl c65⟩
        refine V.aload_n dX5_burnSo_75 rfl ?_
        refine V.iload dX5_burnSo_76 rfl ?_
        refine V.iload_n dX5_burnSo_78 rfl ?_
        refine V.iload dX5_burnSo_79 rfl ?_
        refine V.iadd dX5_burnSo_81 ?_
        refine V.cV2 (ci := 5) yoX5_note ml_X5_33 im_X5_note se_X5_note dX5_burnSo_82 rfl H.1 (Nat.le_of_ble_eq_true rfl) (by omega) ⟨Nat.le_refl _, Nat.le_refl _⟩ rfl (Nat.le_of_ble_eq_true rfl) (note_V (by omega) HF) ?_
        rintro _ h1 ⟨rfl, HF, oh1⟩
        obtain ⟨sh1, H, hsh1⟩ := id HF
        have hfr : ∀ b : Nat, (b < a ∨ a + 2 ≤ b) → h1 b = h b := fun b hb => (oh1 b (by omega)).trans (hfr b hb)
        refine V.aload_n dX5_burnSo_85 rfl ?_
        refine V.iload dX5_burnSo_86 rfl ?_
        refine V.iload dX5_burnSo_88 rfl ?_
        refine V.iload_n dX5_burnSo_90 rfl ?_
        refine V.iload_n dX5_burnSo_91 rfl ?_
        refine V.iload dX5_burnSo_92 rfl ?_
        refine V.imul dX5_burnSo_94 ?_
        refine V.isub dX5_burnSo_95 ?_
        refine V.iload_n dX5_burnSo_96 rfl ?_
        refine V.cV4 (ci := 5) yoX5_burnOn ml_X5_37 im_X5_burnOn se_X5_burnOn dX5_burnSo_97 rfl H.1 (Nat.le_of_ble_eq_true rfl) (by omega) ⟨Nat.le_refl _, Nat.le_refl _⟩ rfl (Nat.le_of_ble_eq_true rfl) (burnOn_V (e := i) (by omega) (by omega) HF) ?_
        rintro _ h2 ⟨rfl, HF, oh2⟩
        obtain ⟨sh2, H, hsh2⟩ := id HF
        have hE : burnSo2 f1 x i y j = burnOnF (noteF f1 (timeF y (nI j)) (nI i + nI j)) (timeF y (nI j)) (nI j) (x - nI i * timeF y (nI j)) i := by unfold burnSo2; exact if_pos hb
        have hfr : ∀ b : Nat, (b < a ∨ a + 2 ≤ b) → h2 b = h b := fun b hb => (oh2 b (by omega)).trans (hfr b hb)
        refine V.vret dX5_burnSo_100 rfl ?_
        exact ⟨rfl, by unfold burnSoF; rw [hf1, hE]; exact HF, hfr⟩
      · skip
        refine V.iload dX5_burnSo_68 rfl ?_
        refine V.iload dX5_burnSo_70 rfl ?_
        refine V.icmp_gt 100 dX5_burnSo_72 (by decide) (fun c72 => ?_) (fun c72 => ?_)
        · skip
          have hE : burnSo2 f1 x i y j = f1 := by unfold burnSo2; exact if_neg (fun z => z.2.elim c65 (fun q => Int32.not_lt.mpr q c72))
          refine V.vret dX5_burnSo_100 rfl ?_
          exact ⟨rfl, by unfold burnSoF; rw [hf1, hE]; exact HF, hfr⟩
        · skip
          have hb : 0 < timeF y (nI j) ∧ (timeF x (nI i) = 0 ∨ timeF y (nI j) ≤ timeF x (nI i)) := ⟨Int32.not_le.mp c60, Or.inr (Int32.not_lt.mp c72)⟩
          refine V.aload_n dX5_burnSo_75 rfl ?_
          refine V.iload dX5_burnSo_76 rfl ?_
          refine V.iload_n dX5_burnSo_78 rfl ?_
          refine V.iload dX5_burnSo_79 rfl ?_
          refine V.iadd dX5_burnSo_81 ?_
          refine V.cV2 (ci := 5) yoX5_note ml_X5_33 im_X5_note se_X5_note dX5_burnSo_82 rfl H.1 (Nat.le_of_ble_eq_true rfl) (by omega) ⟨Nat.le_refl _, Nat.le_refl _⟩ rfl (Nat.le_of_ble_eq_true rfl) (note_V (by omega) HF) ?_
          rintro _ h3 ⟨rfl, HF, oh3⟩
          obtain ⟨sh3, H, hsh3⟩ := id HF
          have hfr : ∀ b : Nat, (b < a ∨ a + 2 ≤ b) → h3 b = h b := fun b hb => (oh3 b (by omega)).trans (hfr b hb)
          refine V.aload_n dX5_burnSo_85 rfl ?_
          refine V.iload dX5_burnSo_86 rfl ?_
          refine V.iload dX5_burnSo_88 rfl ?_
          refine V.iload_n dX5_burnSo_90 rfl ?_
          refine V.iload_n dX5_burnSo_91 rfl ?_
          refine V.iload dX5_burnSo_92 rfl ?_
          refine V.imul dX5_burnSo_94 ?_
          refine V.isub dX5_burnSo_95 ?_
          refine V.iload_n dX5_burnSo_96 rfl ?_
          refine V.cV4 (ci := 5) yoX5_burnOn ml_X5_37 im_X5_burnOn se_X5_burnOn dX5_burnSo_97 rfl H.1 (Nat.le_of_ble_eq_true rfl) (by omega) ⟨Nat.le_refl _, Nat.le_refl _⟩ rfl (Nat.le_of_ble_eq_true rfl) (burnOn_V (e := i) (by omega) (by omega) HF) ?_
          rintro _ h4 ⟨rfl, HF, oh4⟩
          obtain ⟨sh4, H, hsh4⟩ := id HF
          have hE : burnSo2 f1 x i y j = burnOnF (noteF f1 (timeF y (nI j)) (nI i + nI j)) (timeF y (nI j)) (nI j) (x - nI i * timeF y (nI j)) i := by unfold burnSo2; exact if_pos hb
          have hfr : ∀ b : Nat, (b < a ∨ a + 2 ≤ b) → h4 b = h b := fun b hb => (oh4 b (by omega)).trans (hfr b hb)
          refine V.vret dX5_burnSo_100 rfl ?_
          exact ⟨rfl, by unfold burnSoF; rw [hf1, hE]; exact HF, hfr⟩
  obtain ⟨s, H, hf⟩ := id HF
  have hfr : ∀ b : Nat, (b < a ∨ a + 2 ≤ b) → h b = h b := fun _ _ => rfl
  refine V.iload_n dX5_burnSo_0 rfl ?_
  refine V.iload_n dX5_burnSo_1 rfl ?_
  refine V.cS2 yoX5_timeOf ml_X5_29 st_X5_timeOf dX5_burnSo_2 (Nat.le_of_ble_eq_true rfl) (by omega) ⟨Nat.le_refl _, Nat.le_refl _⟩ rfl (Nat.le_of_ble_eq_true rfl) (timeF_V (by omega)) (V.rdK ?_)
  refine V.istore dX5_burnSo_5 (by decide) rfl ?_
  refine V.iload_n dX5_burnSo_7 rfl ?_
  refine V.iload dX5_burnSo_8 rfl ?_
  refine V.cS2 yoX5_timeOf ml_X5_29 st_X5_timeOf dX5_burnSo_10 (Nat.le_of_ble_eq_true rfl) (by omega) ⟨Nat.le_refl _, Nat.le_refl _⟩ rfl (Nat.le_of_ble_eq_true rfl) (timeF_V (by omega)) (V.rdK ?_)
  refine V.istore dX5_burnSo_13 (by decide) rfl ?_
  refine V.iload dX5_burnSo_15 rfl ?_
  refine V.if_le 58 dX5_burnSo_17 (by decide) (fun c17 => ?_) (fun c17 => ?_)
  · skip
    have hE : burnSo1 f x i y j = f := by unfold burnSo1; exact if_neg (fun z => Int32.not_lt.mpr c17 z.1)
    refine V.weak [some (.ref a), some (.int (x)), some (.int (nI i)), some (.int (y)), some (.int (nI j)), some (.int (timeF x (nI i))), some (.int (timeF y (nI j)))] (by simp [leL, sto1, sto2, k2c]) ?_
    exact hJ h _ HF hfr hE
  · skip
    refine V.iload dX5_burnSo_20 rfl ?_
    refine V.if_eq 32 dX5_burnSo_22 (by decide) (fun c22 => ?_) (fun c22 => ?_)
    · skip
      have hb : 0 < timeF x (nI i) ∧ (timeF y (nI j) = 0 ∨ timeF x (nI i) ≤ timeF y (nI j)) := ⟨Int32.not_le.mp c17, Or.inl c22⟩
      refine V.aload_n dX5_burnSo_32 rfl ?_
      refine V.iload dX5_burnSo_33 rfl ?_
      refine V.iload_n dX5_burnSo_35 rfl ?_
      refine V.iload dX5_burnSo_36 rfl ?_
      refine V.iadd dX5_burnSo_38 ?_
      refine V.cV2 (ci := 5) yoX5_note ml_X5_33 im_X5_note se_X5_note dX5_burnSo_39 rfl H.1 (Nat.le_of_ble_eq_true rfl) (by omega) ⟨Nat.le_refl _, Nat.le_refl _⟩ rfl (Nat.le_of_ble_eq_true rfl) (note_V (by omega) HF) ?_
      rintro _ h1 ⟨rfl, HF, oh1⟩
      obtain ⟨sh1, H, hsh1⟩ := id HF
      have hfr : ∀ b : Nat, (b < a ∨ a + 2 ≤ b) → h1 b = h b := fun b hb => (oh1 b (by omega)).trans (hfr b hb)
      refine V.aload_n dX5_burnSo_42 rfl ?_
      refine V.iload dX5_burnSo_43 rfl ?_
      refine V.iload_n dX5_burnSo_45 rfl ?_
      refine V.iload_n dX5_burnSo_46 rfl ?_
      refine V.iload dX5_burnSo_47 rfl ?_
      refine V.iload dX5_burnSo_49 rfl ?_
      refine V.imul dX5_burnSo_51 ?_
      refine V.isub dX5_burnSo_52 ?_
      refine V.iload dX5_burnSo_53 rfl ?_
      refine V.cV4 (ci := 5) yoX5_burnOn ml_X5_37 im_X5_burnOn se_X5_burnOn dX5_burnSo_55 rfl H.1 (Nat.le_of_ble_eq_true rfl) (by omega) ⟨Nat.le_refl _, Nat.le_refl _⟩ rfl (Nat.le_of_ble_eq_true rfl) (burnOn_V (e := j) (by omega) (by omega) HF) ?_
      rintro _ h2 ⟨rfl, HF, oh2⟩
      obtain ⟨sh2, H, hsh2⟩ := id HF
      have hE : burnSo1 f x i y j = burnOnF (noteF f (timeF x (nI i)) (nI i + nI j)) (timeF x (nI i)) (nI i) (y - nI j * timeF x (nI i)) j := by unfold burnSo1; exact if_pos hb
      have hfr : ∀ b : Nat, (b < a ∨ a + 2 ≤ b) → h2 b = h b := fun b hb => (oh2 b (by omega)).trans (hfr b hb)
      refine V.weak [some (.ref a), some (.int (x)), some (.int (nI i)), some (.int (y)), some (.int (nI j)), some (.int (timeF x (nI i))), some (.int (timeF y (nI j)))] (by simp [leL, sto1, sto2, k2c]) ?_
      exact hJ h2 _ HF hfr hE
    · skip
      refine V.iload dX5_burnSo_25 rfl ?_
      refine V.iload dX5_burnSo_27 rfl ?_
      refine V.icmp_gt 58 dX5_burnSo_29 (by decide) (fun c29 => ?_) (fun c29 => ?_)
      · skip
        have hE : burnSo1 f x i y j = f := by unfold burnSo1; exact if_neg (fun z => z.2.elim c22 (fun q => Int32.not_lt.mpr q c29))
        refine V.weak [some (.ref a), some (.int (x)), some (.int (nI i)), some (.int (y)), some (.int (nI j)), some (.int (timeF x (nI i))), some (.int (timeF y (nI j)))] (by simp [leL, sto1, sto2, k2c]) ?_
        exact hJ h _ HF hfr hE
      · skip
        have hb : 0 < timeF x (nI i) ∧ (timeF y (nI j) = 0 ∨ timeF x (nI i) ≤ timeF y (nI j)) := ⟨Int32.not_le.mp c17, Or.inr (Int32.not_lt.mp c29)⟩
        refine V.aload_n dX5_burnSo_32 rfl ?_
        refine V.iload dX5_burnSo_33 rfl ?_
        refine V.iload_n dX5_burnSo_35 rfl ?_
        refine V.iload dX5_burnSo_36 rfl ?_
        refine V.iadd dX5_burnSo_38 ?_
        refine V.cV2 (ci := 5) yoX5_note ml_X5_33 im_X5_note se_X5_note dX5_burnSo_39 rfl H.1 (Nat.le_of_ble_eq_true rfl) (by omega) ⟨Nat.le_refl _, Nat.le_refl _⟩ rfl (Nat.le_of_ble_eq_true rfl) (note_V (by omega) HF) ?_
        rintro _ h3 ⟨rfl, HF, oh3⟩
        obtain ⟨sh3, H, hsh3⟩ := id HF
        have hfr : ∀ b : Nat, (b < a ∨ a + 2 ≤ b) → h3 b = h b := fun b hb => (oh3 b (by omega)).trans (hfr b hb)
        refine V.aload_n dX5_burnSo_42 rfl ?_
        refine V.iload dX5_burnSo_43 rfl ?_
        refine V.iload_n dX5_burnSo_45 rfl ?_
        refine V.iload_n dX5_burnSo_46 rfl ?_
        refine V.iload dX5_burnSo_47 rfl ?_
        refine V.iload dX5_burnSo_49 rfl ?_
        refine V.imul dX5_burnSo_51 ?_
        refine V.isub dX5_burnSo_52 ?_
        refine V.iload dX5_burnSo_53 rfl ?_
        refine V.cV4 (ci := 5) yoX5_burnOn ml_X5_37 im_X5_burnOn se_X5_burnOn dX5_burnSo_55 rfl H.1 (Nat.le_of_ble_eq_true rfl) (by omega) ⟨Nat.le_refl _, Nat.le_refl _⟩ rfl (Nat.le_of_ble_eq_true rfl) (burnOn_V (e := j) (by omega) (by omega) HF) ?_
        rintro _ h4 ⟨rfl, HF, oh4⟩
        obtain ⟨sh4, H, hsh4⟩ := id HF
        have hE : burnSo1 f x i y j = burnOnF (noteF f (timeF x (nI i)) (nI i + nI j)) (timeF x (nI i)) (nI i) (y - nI j * timeF x (nI i)) j := by unfold burnSo1; exact if_pos hb
        have hfr : ∀ b : Nat, (b < a ∨ a + 2 ≤ b) → h4 b = h b := fun b hb => (oh4 b (by omega)).trans (hfr b hb)
        refine V.weak [some (.ref a), some (.int (x)), some (.int (nI i)), some (.int (y)), some (.int (nI j)), some (.int (timeF x (nI i))), some (.int (timeF y (nI j)))] (by simp [leL, sto1, sto2, k2c]) ?_
        exact hJ h4 _ HF hfr hE
set_option maxRecDepth 100000 in
set_option maxHeartbeats 1000000 in
theorem pairCell_V {d n0 : Nat} {κ : Kd} (hd : 4 ≤ d) {h h2 : Hp} {a i j : Nat} {f : Nat → Int32} {x y : Int32} {P : Option Value → Hp → Prop} (hi : i ≤ 2) (hj : j ≤ 2) (HF : isF h2 a f) (hfr : ∀ b : Nat, (b < a ∨ a + 2 ≤ b) → h2 b = h b)
    (kk : ∀ (h3 : Hp) (f3 : Nat → Int32), isF h3 a f3 → (∀ b : Nat, (b < a ∨ a + 2 ≤ b) → h3 b = h b) → cellF x y f i j = f3 → V MX5_burn (d, 0, 0, n0, κ) 0 0 h3 50 [some (.ref a), some (.int (x)), some (.int (y)), some (.int (nI i)), some (.int (nI j))] [] P) : V MX5_burn (d, 0, 0, n0, κ) 0 0 h2 24 [some (.ref a), some (.int (x)), some (.int (y)), some (.int (nI i)), some (.int (nI j))] [] P := by
  obtain ⟨s, H, hf⟩ := id HF
  refine V.iload_n dX5_burn_24 rfl ?_
  refine V.iload_n dX5_burn_25 rfl ?_
  refine V.cS2 yoX5_canHave ml_X5_21 st_X5_canHave dX5_burn_26 (Nat.le_of_ble_eq_true rfl) (by omega) ⟨Nat.le_refl _, Nat.le_refl _⟩ rfl (Nat.le_of_ble_eq_true rfl) (canF_V (by omega)) (V.rdK ?_)
  refine V.if_eq 50 dX5_burn_29 (by decide) (fun c29 => ?_) (fun c29 => ?_)
  · skip
    have hE : cellF x y f i j = f := by unfold cellF; exact if_neg (fun z => by rw [bI_f c29] at z; exact absurd z.1 (by decide))
    refine V.weak [some (.ref a), some (.int (x)), some (.int (y)), some (.int (nI i)), some (.int (nI j))] (by simp [leL, sto1, sto2, k2c]) ?_
    exact kk h2 _ HF hfr hE
  · skip
    refine V.iload_n dX5_burn_32 rfl ?_
    refine V.iload dX5_burn_33 rfl ?_
    refine V.cS2 yoX5_canHave ml_X5_21 st_X5_canHave dX5_burn_35 (Nat.le_of_ble_eq_true rfl) (by omega) ⟨Nat.le_refl _, Nat.le_refl _⟩ rfl (Nat.le_of_ble_eq_true rfl) (canF_V (by omega)) (V.rdK ?_)
    refine V.if_eq 50 dX5_burn_38 (by decide) (fun c38 => ?_) (fun c38 => ?_)
    · skip
      have hE : cellF x y f i j = f := by unfold cellF; exact if_neg (fun z => by rw [bI_f c38] at z; exact absurd z.2 (by decide))
      refine V.weak [some (.ref a), some (.int (x)), some (.int (y)), some (.int (nI i)), some (.int (nI j))] (by simp [leL, sto1, sto2, k2c]) ?_
      exact kk h2 _ HF hfr hE
    · skip
      refine V.aload_n dX5_burn_41 rfl ?_
      refine V.iload_n dX5_burn_42 rfl ?_
      refine V.iload_n dX5_burn_43 rfl ?_
      refine V.iload_n dX5_burn_44 rfl ?_
      refine V.iload dX5_burn_45 rfl ?_
      refine V.cV4 (ci := 5) yoX5_burnSo ml_X5_25 im_X5_burnSo se_X5_burnSo dX5_burn_47 rfl H.1 (Nat.le_of_ble_eq_true rfl) (by omega) ⟨Nat.le_refl _, Nat.le_refl _⟩ rfl (Nat.le_of_ble_eq_true rfl) (burnSo_V (by omega) hi hj HF) ?_
      rintro _ h1 ⟨rfl, HF, oh1⟩
      obtain ⟨sh1, H, hsh1⟩ := id HF
      have hE : cellF x y f i j = burnSoF f x i y j := by unfold cellF; exact if_pos ⟨bI_t c29, bI_t c38⟩
      have hfr : ∀ b : Nat, (b < a ∨ a + 2 ≤ b) → h1 b = h b := fun b hb => (oh1 b (by omega)).trans (hfr b hb)
      refine V.weak [some (.ref a), some (.int (x)), some (.int (y)), some (.int (nI i)), some (.int (nI j))] (by simp [leL, sto1, sto2, k2c]) ?_
      exact kk h1 _ HF hfr hE
set_option maxRecDepth 100000 in
set_option maxHeartbeats 1000000 in
theorem pair_V {d n0 : Nat} {κ : Kd} (hd : 5 ≤ d) {h : Hp} {a : Nat} {s : St} {x y : Int32} (H : isR C5 h a s) : V MX5_burn (d, 0, 0, n0, κ) 0 0 h 0 [some (.ref a), some (.int (x)), some (.int (y)), none, none] [] (fun v h' => v = none ∧ isF h' a (pairF x y) ∧ ∀ b : Nat, (b < a ∨ a + 2 ≤ b) → h' b = h b) := by
  have hfr : ∀ b : Nat, (b < a ∨ a + 2 ≤ b) → h b = h b := fun _ _ => rfl
  refine V.aload_n dX5_burn_0 rfl ?_
  refine V.getf okX5 0 fl_X5_9 dX5_burn_1 (by decide) H.1 rfl ?_
  refine V.iconst (v := 0) dX5_burn_4 (by decide) ?_
  refine V.cS2 yoJ7_fill_53178 ml_X5_15 st_J7_fill_53178 dX5_burn_5 (Nat.le_of_ble_eq_true rfl) (by omega) ⟨Nat.le_refl _, Nat.le_refl _⟩ rfl (Nat.le_of_ble_eq_true rfl) (fillI_V (by omega) (by decide) (C5_r0 H)) ?_
  rintro _ h1 ⟨rfl, eh1, oh1⟩
  have H := isR.setAR C5_ok H C5_in0 (by decide) _ eh1 oh1
  have hfr : ∀ b : Nat, (b < a ∨ a + 2 ≤ b) → h1 b = h b := fun b hb => (oh1 b (by omega)).trans (hfr b hb)
  refine V.iconst (v := nI 0) dX5_burn_8 (by decide) ?_
  refine V.istore_n dX5_burn_9 (by decide) rfl ?_
  have HF : isF h1 a (fun _ => 0) := ⟨_, H, rfl⟩
  refine V.weak [some (.ref a), some (.int (x)), some (.int (y)), some (.int (nI 0)), none] (by simp [leL, sto1, sto2, k2c]) ?_
  refine V.iload_n dX5_burn_10 rfl ?_
  refine V.iconst (v := 2) dX5_burn_11 (by decide) ?_
  refine V.icmp_gt 62 dX5_burn_12 (by decide) (fun z => absurd z (by decide)) (fun _ => ?_)
  refine V.iconst (v := nI 0) dX5_burn_15 (by decide) ?_
  refine V.istore dX5_burn_16 (by decide) rfl ?_
  refine V.weak [some (.ref a), some (.int (x)), some (.int (y)), some (.int (nI 0)), some (.int (nI 0))] (by simp [leL, sto1, sto2, k2c]) ?_
  refine V.iload dX5_burn_18 rfl ?_
  refine V.iconst (v := 2) dX5_burn_20 (by decide) ?_
  refine V.icmp_gt 56 dX5_burn_21 (by decide) (fun z => absurd z (by decide)) (fun _ => ?_)
  refine pairCell_V (i := 0) (j := 0) (by omega) (by omega) (by omega) HF hfr (fun g1 f1 HF hfr hE1 => ?_)
  refine V.iinc (v := 1) dX5_burn_50 rfl (by decide) (by decide) rfl ?_
  refine V.goto 18 dX5_burn_53 (by decide) ?_
  refine V.weak [some (.ref a), some (.int (x)), some (.int (y)), some (.int (nI 0)), some (.int (nI 1))] (by simp [leL, sto1, sto2, k2c]; decide) ?_
  refine V.iload dX5_burn_18 rfl ?_
  refine V.iconst (v := 2) dX5_burn_20 (by decide) ?_
  refine V.icmp_gt 56 dX5_burn_21 (by decide) (fun z => absurd z (by decide)) (fun _ => ?_)
  refine pairCell_V (i := 0) (j := 1) (by omega) (by omega) (by omega) HF hfr (fun g2 f2 HF hfr hE2 => ?_)
  refine V.iinc (v := 1) dX5_burn_50 rfl (by decide) (by decide) rfl ?_
  refine V.goto 18 dX5_burn_53 (by decide) ?_
  refine V.weak [some (.ref a), some (.int (x)), some (.int (y)), some (.int (nI 0)), some (.int (nI 2))] (by simp [leL, sto1, sto2, k2c]; decide) ?_
  refine V.iload dX5_burn_18 rfl ?_
  refine V.iconst (v := 2) dX5_burn_20 (by decide) ?_
  refine V.icmp_gt 56 dX5_burn_21 (by decide) (fun z => absurd z (by decide)) (fun _ => ?_)
  refine pairCell_V (i := 0) (j := 2) (by omega) (by omega) (by omega) HF hfr (fun g3 f3 HF hfr hE3 => ?_)
  refine V.iinc (v := 1) dX5_burn_50 rfl (by decide) (by decide) rfl ?_
  refine V.goto 18 dX5_burn_53 (by decide) ?_
  refine V.weak [some (.ref a), some (.int (x)), some (.int (y)), some (.int (nI 0)), some (.int (nI 3))] (by simp [leL, sto1, sto2, k2c]; decide) ?_
  refine V.iload dX5_burn_18 rfl ?_
  refine V.iconst (v := 2) dX5_burn_20 (by decide) ?_
  refine V.icmp_gt 56 dX5_burn_21 (by decide) (fun _ => ?_) (fun z => absurd (by decide) z)
  refine V.iinc (v := 1) dX5_burn_56 rfl (by decide) (by decide) rfl ?_
  refine V.goto 10 dX5_burn_59 (by decide) ?_
  refine V.weak [some (.ref a), some (.int (x)), some (.int (y)), some (.int (nI 1)), none] (by simp [leL, sto1, sto2, k2c]; decide) ?_
  refine V.iload_n dX5_burn_10 rfl ?_
  refine V.iconst (v := 2) dX5_burn_11 (by decide) ?_
  refine V.icmp_gt 62 dX5_burn_12 (by decide) (fun z => absurd z (by decide)) (fun _ => ?_)
  refine V.iconst (v := nI 0) dX5_burn_15 (by decide) ?_
  refine V.istore dX5_burn_16 (by decide) rfl ?_
  refine V.weak [some (.ref a), some (.int (x)), some (.int (y)), some (.int (nI 1)), some (.int (nI 0))] (by simp [leL, sto1, sto2, k2c]) ?_
  refine V.iload dX5_burn_18 rfl ?_
  refine V.iconst (v := 2) dX5_burn_20 (by decide) ?_
  refine V.icmp_gt 56 dX5_burn_21 (by decide) (fun z => absurd z (by decide)) (fun _ => ?_)
  refine pairCell_V (i := 1) (j := 0) (by omega) (by omega) (by omega) HF hfr (fun g4 f4 HF hfr hE4 => ?_)
  refine V.iinc (v := 1) dX5_burn_50 rfl (by decide) (by decide) rfl ?_
  refine V.goto 18 dX5_burn_53 (by decide) ?_
  refine V.weak [some (.ref a), some (.int (x)), some (.int (y)), some (.int (nI 1)), some (.int (nI 1))] (by simp [leL, sto1, sto2, k2c]; decide) ?_
  refine V.iload dX5_burn_18 rfl ?_
  refine V.iconst (v := 2) dX5_burn_20 (by decide) ?_
  refine V.icmp_gt 56 dX5_burn_21 (by decide) (fun z => absurd z (by decide)) (fun _ => ?_)
  refine pairCell_V (i := 1) (j := 1) (by omega) (by omega) (by omega) HF hfr (fun g5 f5 HF hfr hE5 => ?_)
  refine V.iinc (v := 1) dX5_burn_50 rfl (by decide) (by decide) rfl ?_
  refine V.goto 18 dX5_burn_53 (by decide) ?_
  refine V.weak [some (.ref a), some (.int (x)), some (.int (y)), some (.int (nI 1)), some (.int (nI 2))] (by simp [leL, sto1, sto2, k2c]; decide) ?_
  refine V.iload dX5_burn_18 rfl ?_
  refine V.iconst (v := 2) dX5_burn_20 (by decide) ?_
  refine V.icmp_gt 56 dX5_burn_21 (by decide) (fun z => absurd z (by decide)) (fun _ => ?_)
  refine pairCell_V (i := 1) (j := 2) (by omega) (by omega) (by omega) HF hfr (fun g6 f6 HF hfr hE6 => ?_)
  refine V.iinc (v := 1) dX5_burn_50 rfl (by decide) (by decide) rfl ?_
  refine V.goto 18 dX5_burn_53 (by decide) ?_
  refine V.weak [some (.ref a), some (.int (x)), some (.int (y)), some (.int (nI 1)), some (.int (nI 3))] (by simp [leL, sto1, sto2, k2c]; decide) ?_
  refine V.iload dX5_burn_18 rfl ?_
  refine V.iconst (v := 2) dX5_burn_20 (by decide) ?_
  refine V.icmp_gt 56 dX5_burn_21 (by decide) (fun _ => ?_) (fun z => absurd (by decide) z)
  refine V.iinc (v := 1) dX5_burn_56 rfl (by decide) (by decide) rfl ?_
  refine V.goto 10 dX5_burn_59 (by decide) ?_
  refine V.weak [some (.ref a), some (.int (x)), some (.int (y)), some (.int (nI 2)), none] (by simp [leL, sto1, sto2, k2c]; decide) ?_
  refine V.iload_n dX5_burn_10 rfl ?_
  refine V.iconst (v := 2) dX5_burn_11 (by decide) ?_
  refine V.icmp_gt 62 dX5_burn_12 (by decide) (fun z => absurd z (by decide)) (fun _ => ?_)
  refine V.iconst (v := nI 0) dX5_burn_15 (by decide) ?_
  refine V.istore dX5_burn_16 (by decide) rfl ?_
  refine V.weak [some (.ref a), some (.int (x)), some (.int (y)), some (.int (nI 2)), some (.int (nI 0))] (by simp [leL, sto1, sto2, k2c]) ?_
  refine V.iload dX5_burn_18 rfl ?_
  refine V.iconst (v := 2) dX5_burn_20 (by decide) ?_
  refine V.icmp_gt 56 dX5_burn_21 (by decide) (fun z => absurd z (by decide)) (fun _ => ?_)
  refine pairCell_V (i := 2) (j := 0) (by omega) (by omega) (by omega) HF hfr (fun g7 f7 HF hfr hE7 => ?_)
  refine V.iinc (v := 1) dX5_burn_50 rfl (by decide) (by decide) rfl ?_
  refine V.goto 18 dX5_burn_53 (by decide) ?_
  refine V.weak [some (.ref a), some (.int (x)), some (.int (y)), some (.int (nI 2)), some (.int (nI 1))] (by simp [leL, sto1, sto2, k2c]; decide) ?_
  refine V.iload dX5_burn_18 rfl ?_
  refine V.iconst (v := 2) dX5_burn_20 (by decide) ?_
  refine V.icmp_gt 56 dX5_burn_21 (by decide) (fun z => absurd z (by decide)) (fun _ => ?_)
  refine pairCell_V (i := 2) (j := 1) (by omega) (by omega) (by omega) HF hfr (fun g8 f8 HF hfr hE8 => ?_)
  refine V.iinc (v := 1) dX5_burn_50 rfl (by decide) (by decide) rfl ?_
  refine V.goto 18 dX5_burn_53 (by decide) ?_
  refine V.weak [some (.ref a), some (.int (x)), some (.int (y)), some (.int (nI 2)), some (.int (nI 2))] (by simp [leL, sto1, sto2, k2c]; decide) ?_
  refine V.iload dX5_burn_18 rfl ?_
  refine V.iconst (v := 2) dX5_burn_20 (by decide) ?_
  refine V.icmp_gt 56 dX5_burn_21 (by decide) (fun z => absurd z (by decide)) (fun _ => ?_)
  refine pairCell_V (i := 2) (j := 2) (by omega) (by omega) (by omega) HF hfr (fun g9 f9 HF hfr hE9 => ?_)
  refine V.iinc (v := 1) dX5_burn_50 rfl (by decide) (by decide) rfl ?_
  refine V.goto 18 dX5_burn_53 (by decide) ?_
  refine V.weak [some (.ref a), some (.int (x)), some (.int (y)), some (.int (nI 2)), some (.int (nI 3))] (by simp [leL, sto1, sto2, k2c]; decide) ?_
  refine V.iload dX5_burn_18 rfl ?_
  refine V.iconst (v := 2) dX5_burn_20 (by decide) ?_
  refine V.icmp_gt 56 dX5_burn_21 (by decide) (fun _ => ?_) (fun z => absurd (by decide) z)
  refine V.iinc (v := 1) dX5_burn_56 rfl (by decide) (by decide) rfl ?_
  refine V.goto 10 dX5_burn_59 (by decide) ?_
  refine V.weak [some (.ref a), some (.int (x)), some (.int (y)), some (.int (nI 3)), none] (by simp [leL, sto1, sto2, k2c]; decide) ?_
  refine V.iload_n dX5_burn_10 rfl ?_
  refine V.iconst (v := 2) dX5_burn_11 (by decide) ?_
  refine V.icmp_gt 62 dX5_burn_12 (by decide) (fun _ => ?_) (fun z => absurd (by decide) z)
  refine V.vret dX5_burn_62 rfl ?_
  subst hE1 hE2 hE3 hE4 hE5 hE6 hE7 hE8 hE9
  exact ⟨rfl, HF, hfr⟩
