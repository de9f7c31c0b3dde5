/-! Course: burning, a whole HOUR -/
theorem upd_ne {f : Nat → Int32} {k j : Nat} {x : Int32} (h : j ≠ k) : upd f k x j = f j := by simp [upd, h]
theorem cIdle_0 (c : St) (j : Nat) (hj : j ≠ 9) : (cIdle c).1 j = c.1 j := upd_ne hj
theorem cLightOrIdle_0 (c : St) (i : Nat) (e : Int32) (j : Nat) (hj : j ≠ 9) : (cLightOrIdle c i e).1 j = c.1 j := by
  unfold cLightOrIdle
  split
  · rfl
  · exact cIdle_0 c j hj
theorem cBlowOrIdle_0 (c : St) (i : Nat) (e : Int32) (j : Nat) (hj : j ≠ 9) : (cBlowOrIdle c i e).1 j = c.1 j := by
  unfold cBlowOrIdle
  split
  · rfl
  · exact cIdle_0 c j hj
theorem lightsF_0 (d : St) (men : Int32) (j : Nat) (hj : j ≠ 9) : ∀ (k i : Nat) (c : St), (lightsF d men k i c).1 j = c.1 j := by
  intro k
  induction k with
  | zero => intro i c; rfl
  | succ k ih =>
    intro i c
    rw [lightsF, ih]
    split
    · exact cLightOrIdle_0 c _ _ j hj
    · rfl
theorem blowsF_0 (d : St) (men : Int32) (j : Nat) (hj : j ≠ 9) : ∀ (k i : Nat) (c : St), (blowsF d men k i c).1 j = c.1 j := by
  intro k
  induction k with
  | zero => intro i c; rfl
  | succ k ih =>
    intro i c
    rw [blowsF, ih]
    split
    · exact cBlowOrIdle_0 c _ _ j hj
    · rfl
theorem cLB_0 (T : Tx) (men nb : Int32) (c : St) (j : Nat) (hj : j ≠ 9) : (cLB T men nb c).1 j = c.1 j := by
  unfold cLB
  simp only
  split
  · rw [blowsF_0 _ _ _ hj, lightsF_0 _ _ _ hj]
  · rw [lightsF_0 _ _ _ hj]
theorem windN_0 (dr : Int32) (c : St) (j : Nat) (hj : j ≠ 10) : (windN dr c).2.1 j = c.1 j := by
  unfold windN
  split
  · rfl
  · exact upd_ne hj
theorem windK_0 (w : Int32) (T : Tx) (c : St) (j : Nat) (hj : j ≠ 10) : (windK w T c).2.1 j = c.1 j := by
  unfold windK
  split
  · exact windN_0 _ c j hj
  · split
    · rfl
    · split <;> rfl
set_option maxRecDepth 100000 in
set_option maxHeartbeats 2000000 in
theorem burnEnd_V {d n0 : Nat} {κ : Kd} (hd : 5 ≤ d) {h h2 : Hp} {a t b0 i : Nat} {s c2 : St} {T : Tx} {windy : Bool} {men : Int32} {x3 : Int32} {P : Option Value → Hp → Prop} (hr : s.2.2.2 0 = t) (hw : wfT T) (hs1 : a < b0 ∨ b0 + 7 ≤ a) (hs2 : t + 19 ≤ b0 ∨ b0 + 7 ≤ t) (hs3 : a < t ∨ t + 19 ≤ a) (hi : i < nat (T.1.1 0)) (H : isR C1 h2 a s) (HT1 : isR C8 h2 t T.1) (HT4 : isL h2 (t + 13) T.2.2.2) (HC : isR C0 h2 b0 c2) (hfr : ∀ b : Nat, ((b < b0 ∨ b0 + 7 ≤ b) ∧ (b < t + 13 ∨ t + 19 ≤ b)) → h2 b = h b) {e : Nat} (kk : ∀ (h3 : Hp) (c3 : St), isR C1 h3 a s → isR C8 h3 t T.1 → isL h3 (t + 13) T.2.2.2 → isR C0 h3 b0 c3 → (∀ b : Nat, ((b < b0 ∨ b0 + 7 ≤ b) ∧ (b < t + 13 ∨ t + 19 ≤ b)) → h3 b = h b) → burnE T (s.1 4) windy i (nI e) c2 = c3 → V MX1_pass (d, 0, 0, n0, κ) 0 0 h3 149 [some (.ref a), some (.ref (b0)), some (.int (men)), some (.int (x3)), some (.int (bI windy)), some (.int (nI i)), some (.int (nI e)), none, none, none] [] P) : V MX1_pass (d, 0, 0, n0, κ) 0 0 h2 66 [some (.ref a), some (.ref (b0)), some (.int (men)), some (.int (x3)), some (.int (bI windy)), some (.int (nI i)), some (.int (nI e)), none, none, none] [] P := by
  refine V.aload_n dX1_pass_66 rfl ?_
  refine V.iload dX1_pass_67 rfl ?_
  refine V.iload dX1_pass_69 rfl ?_
  refine V.cV2 (ci := 0) yoX0_isLit ml_X1_47 im_X0_isLit se_X0_isLit dX1_pass_71 rfl HC.1 (Nat.le_of_ble_eq_true rfl) (by omega) ⟨Nat.le_refl _, Nat.le_refl _⟩ rfl (Nat.le_of_ble_eq_true rfl) (isLit_V (by omega) HC (by have := hw.1.2; omega)) (V.rdK ?_)
  refine V.if_eq 149 dX1_pass_74 (by decide) (fun c74 => ?_) (fun c74 => ?_)
  · skip
    refine V.weak [some (.ref a), some (.ref (b0)), some (.int (men)), some (.int (x3)), some (.int (bI windy)), some (.int (nI i)), some (.int (nI e)), none, none, none] (by simp [leL, sto1, sto2, k2c]) ?_
    exact kk h2 _ H HT1 HT4 HC hfr (by
      unfold burnE
      first
      | rw [if_neg (by rw [bI_f c74]; decide)]
      | (rw [if_pos (bI_t c74)]
         unfold burnN
         first
         | (rw [if_pos c81, if_pos (show tW T 0 c2 i windy = ERR from (lg_cmp_eq _ _).mp c131)]; first | rw [bI_t c110] | rw [bI_f c110]
            try rfl)
         | (rw [if_pos c81, if_neg (show ¬ tW T 0 c2 i windy = ERR from fun z => c131 ((lg_cmp_eq _ _).mpr z))]
            try rfl)
         | (rw [if_neg c81]; first | rw [bI_t c110] | rw [bI_f c110]
            try rfl)))
  · skip
    refine V.aload_n dX1_pass_77 rfl ?_
    refine V.getf okX1 4 fl_X1_29 dX1_pass_78 (by decide) H.1 rfl ?_
    refine V.if_eq 90 dX1_pass_81 (by decide) (fun c81 => ?_) (fun c81 => ?_)
    · skip
      refine V.aload_n dX1_pass_90 rfl ?_
      refine V.getf (v := .ref (t)) okX1 0 fl_X1_12 dX1_pass_91 (by decide) H.1 (congrArg (fun z => some (Value.ref z)) (hr)) ?_
      refine V.getf okX8 9 fl_X1_55 dX1_pass_94 (by decide) HT1.1 rfl ?_
      refine V.iconst (v := 0) dX1_pass_97 (by decide) ?_
      refine V.aload_n dX1_pass_98 rfl ?_
      refine V.iload dX1_pass_99 rfl ?_
      refine V.iload dX1_pass_101 rfl ?_
      obtain ⟨g4, H4⟩ := id HT4
      refine V.cV4 (ci := 4) yoX4_worth ml_X1_59 im_X4_worth se_X4_worth dX1_pass_103 rfl H4.1 (Nat.le_of_ble_eq_true rfl) (by omega) ⟨Nat.le_refl _, Nat.le_refl _⟩ rfl (Nat.le_of_ble_eq_true rfl) (worthT_V (by omega) HT4 HC hw hs2 hi (by decide)) ?_
      rintro _ h1 ⟨rfl, HT4, ooh1⟩
      have oh1 : ∀ b : Nat, ¬ (t + 13 ≤ b ∧ b < t + 19) → h1 b = h2 b := fun b hb => ooh1 b (by omega)
      have H := H.kept C1_ok (fun b hb1 hb2 => oh1 b (by have hb3 : b < _ := hb2; simp only [C1] at hb3; omega))
      have HC := HC.kept C0_ok (fun b hb1 hb2 => oh1 b (by have hb3 : b < _ := hb2; simp only [C0] at hb3; omega))
      have HT1 := HT1.kept C8_ok (fun b hb1 hb2 => oh1 b (by have hb3 : b < _ := hb2; simp only [C8] at hb3; omega))
      have hfr : ∀ b : Nat, ((b < b0 ∨ b0 + 7 ≤ b) ∧ (b < t + 13 ∨ t + 19 ≤ b)) → h1 b = h b := fun b hb => (oh1 b (by omega)).trans (hfr b hb)
      refine V.lstore dX1_pass_106 (by decide) rfl ?_
      refine V.iload dX1_pass_108 rfl ?_
      refine V.if_eq 117 dX1_pass_110 (by decide) (fun c110 => ?_) (fun c110 => ?_)
      · skip
        refine V.iconst (v := 1) dX1_pass_117 (by decide) ?_
        refine V.istore dX1_pass_118 (by decide) rfl ?_
        refine V.aload_n dX1_pass_120 rfl ?_
        refine V.iload dX1_pass_121 rfl ?_
        refine V.iload dX1_pass_123 rfl ?_
        refine V.lload dX1_pass_125 rfl ?_
        refine V.ldc2 kc_X1_53 dX1_pass_127 ?_
        refine V.lcmp dX1_pass_130 ?_
        refine V.if_ne 139 dX1_pass_131 (by decide) (fun c131 => ?_) (fun c131 => ?_)
        · skip
          refine V.lload dX1_pass_139 rfl ?_
          refine V.bipush (v := 9) dX1_pass_141 (by decide) ?_
          refine V.cSN2 yoX11_within nw_X1_65 st_X11_within dX1_pass_143 (Nat.le_of_ble_eq_true rfl) (by omega) ⟨Nat.le_refl _, Nat.le_refl _⟩ rfl (Nat.le_of_ble_eq_true rfl) (within_V (by omega)) (V.rdK ?_)
          refine V.cV3 (ci := 0) yoX0_shorten ml_X1_69 im_X0_shorten se_X0_shorten dX1_pass_146 rfl HC.1 (Nat.le_of_ble_eq_true rfl) (by omega) ⟨Nat.le_refl _, Nat.le_refl _⟩ rfl (Nat.le_of_ble_eq_true rfl) (shorten_V (by omega) HC (by have := hw.1.2; omega)) ?_
          rintro _ h2 ⟨rfl, HC, ooh2⟩
          have oh2 : ∀ b : Nat, ¬ (b0 ≤ b ∧ b < b0 + 7) → h2 b = h1 b := fun b hb => ooh2 b (by omega)
          have H := H.kept C1_ok (fun b hb1 hb2 => oh2 b (by have hb3 : b < _ := hb2; simp only [C1] at hb3; omega))
          have HT1 := HT1.kept C8_ok (fun b hb1 hb2 => oh2 b (by have hb3 : b < _ := hb2; simp only [C8] at hb3; omega))
          have HT4 := HT4.kept (fun b hb1 hb2 => oh2 b (by omega))
          have hfr : ∀ b : Nat, ((b < b0 ∨ b0 + 7 ≤ b) ∧ (b < t + 13 ∨ t + 19 ≤ b)) → h2 b = h b := fun b hb => (oh2 b (by omega)).trans (hfr b hb)
          refine V.weak [some (.ref a), some (.ref (b0)), some (.int (men)), some (.int (x3)), some (.int (bI windy)), some (.int (nI i)), some (.int (nI e)), none, none, none] (by simp [leL, sto1, sto2, k2c]) ?_
          exact kk h2 _ H HT1 HT4 HC hfr (by
            unfold burnE
            first
            | rw [if_neg (by rw [bI_f c74]; decide)]
            | (rw [if_pos (bI_t c74)]
               unfold burnN
               first
               | (rw [if_pos c81, if_pos (show tW T 0 c2 i windy = ERR from (lg_cmp_eq _ _).mp c131)]; first | rw [bI_t c110] | rw [bI_f c110]
                  try rfl)
               | (rw [if_pos c81, if_neg (show ¬ tW T 0 c2 i windy = ERR from fun z => c131 ((lg_cmp_eq _ _).mpr z))]
                  try rfl)
               | (rw [if_neg c81]; first | rw [bI_t c110] | rw [bI_f c110]
                  try rfl)))
        · skip
          refine V.iload dX1_pass_134 rfl ?_
          refine V.goto 146 dX1_pass_136 (by decide) ?_
          refine V.cV3 (ci := 0) yoX0_shorten ml_X1_69 im_X0_shorten se_X0_shorten dX1_pass_146 rfl HC.1 (Nat.le_of_ble_eq_true rfl) (by omega) ⟨Nat.le_refl _, Nat.le_refl _⟩ rfl (Nat.le_of_ble_eq_true rfl) (shorten_V (by omega) HC (by have := hw.1.2; omega)) ?_
          rintro _ h3 ⟨rfl, HC, ooh3⟩
          have oh3 : ∀ b : Nat, ¬ (b0 ≤ b ∧ b < b0 + 7) → h3 b = h1 b := fun b hb => ooh3 b (by omega)
          have H := H.kept C1_ok (fun b hb1 hb2 => oh3 b (by have hb3 : b < _ := hb2; simp only [C1] at hb3; omega))
          have HT1 := HT1.kept C8_ok (fun b hb1 hb2 => oh3 b (by have hb3 : b < _ := hb2; simp only [C8] at hb3; omega))
          have HT4 := HT4.kept (fun b hb1 hb2 => oh3 b (by omega))
          have hfr : ∀ b : Nat, ((b < b0 ∨ b0 + 7 ≤ b) ∧ (b < t + 13 ∨ t + 19 ≤ b)) → h3 b = h b := fun b hb => (oh3 b (by omega)).trans (hfr b hb)
          refine V.weak [some (.ref a), some (.ref (b0)), some (.int (men)), some (.int (x3)), some (.int (bI windy)), some (.int (nI i)), some (.int (nI e)), none, none, none] (by simp [leL, sto1, sto2, k2c]) ?_
          exact kk h3 _ H HT1 HT4 HC hfr (by
            unfold burnE
            first
            | rw [if_neg (by rw [bI_f c74]; decide)]
            | (rw [if_pos (bI_t c74)]
               unfold burnN
               first
               | (rw [if_pos c81, if_pos (show tW T 0 c2 i windy = ERR from (lg_cmp_eq _ _).mp c131)]; first | rw [bI_t c110] | rw [bI_f c110]
                  try rfl)
               | (rw [if_pos c81, if_neg (show ¬ tW T 0 c2 i windy = ERR from fun z => c131 ((lg_cmp_eq _ _).mpr z))]
                  try rfl)
               | (rw [if_neg c81]; first | rw [bI_t c110] | rw [bI_f c110]
                  try rfl)))
      · skip
        refine V.iconst (v := 2) dX1_pass_113 (by decide) ?_
        refine V.goto 118 dX1_pass_114 (by decide) ?_
        refine V.istore dX1_pass_118 (by decide) rfl ?_
        refine V.aload_n dX1_pass_120 rfl ?_
        refine V.iload dX1_pass_121 rfl ?_
        refine V.iload dX1_pass_123 rfl ?_
        refine V.lload dX1_pass_125 rfl ?_
        refine V.ldc2 kc_X1_53 dX1_pass_127 ?_
        refine V.lcmp dX1_pass_130 ?_
        refine V.if_ne 139 dX1_pass_131 (by decide) (fun c131 => ?_) (fun c131 => ?_)
        · skip
          refine V.lload dX1_pass_139 rfl ?_
          refine V.bipush (v := 9) dX1_pass_141 (by decide) ?_
          refine V.cSN2 yoX11_within nw_X1_65 st_X11_within dX1_pass_143 (Nat.le_of_ble_eq_true rfl) (by omega) ⟨Nat.le_refl _, Nat.le_refl _⟩ rfl (Nat.le_of_ble_eq_true rfl) (within_V (by omega)) (V.rdK ?_)
          refine V.cV3 (ci := 0) yoX0_shorten ml_X1_69 im_X0_shorten se_X0_shorten dX1_pass_146 rfl HC.1 (Nat.le_of_ble_eq_true rfl) (by omega) ⟨Nat.le_refl _, Nat.le_refl _⟩ rfl (Nat.le_of_ble_eq_true rfl) (shorten_V (by omega) HC (by have := hw.1.2; omega)) ?_
          rintro _ h4 ⟨rfl, HC, ooh4⟩
          have oh4 : ∀ b : Nat, ¬ (b0 ≤ b ∧ b < b0 + 7) → h4 b = h1 b := fun b hb => ooh4 b (by omega)
          have H := H.kept C1_ok (fun b hb1 hb2 => oh4 b (by have hb3 : b < _ := hb2; simp only [C1] at hb3; omega))
          have HT1 := HT1.kept C8_ok (fun b hb1 hb2 => oh4 b (by have hb3 : b < _ := hb2; simp only [C8] at hb3; omega))
          have HT4 := HT4.kept (fun b hb1 hb2 => oh4 b (by omega))
          have hfr : ∀ b : Nat, ((b < b0 ∨ b0 + 7 ≤ b) ∧ (b < t + 13 ∨ t + 19 ≤ b)) → h4 b = h b := fun b hb => (oh4 b (by omega)).trans (hfr b hb)
          refine V.weak [some (.ref a), some (.ref (b0)), some (.int (men)), some (.int (x3)), some (.int (bI windy)), some (.int (nI i)), some (.int (nI e)), none, none, none] (by simp [leL, sto1, sto2, k2c]) ?_
          exact kk h4 _ H HT1 HT4 HC hfr (by
            unfold burnE
            first
            | rw [if_neg (by rw [bI_f c74]; decide)]
            | (rw [if_pos (bI_t c74)]
               unfold burnN
               first
               | (rw [if_pos c81, if_pos (show tW T 0 c2 i windy = ERR from (lg_cmp_eq _ _).mp c131)]; first | rw [bI_t c110] | rw [bI_f c110]
                  try rfl)
               | (rw [if_pos c81, if_neg (show ¬ tW T 0 c2 i windy = ERR from fun z => c131 ((lg_cmp_eq _ _).mpr z))]
                  try rfl)
               | (rw [if_neg c81]; first | rw [bI_t c110] | rw [bI_f c110]
                  try rfl)))
        · skip
          refine V.iload dX1_pass_134 rfl ?_
          refine V.goto 146 dX1_pass_136 (by decide) ?_
          refine V.cV3 (ci := 0) yoX0_shorten ml_X1_69 im_X0_shorten se_X0_shorten dX1_pass_146 rfl HC.1 (Nat.le_of_ble_eq_true rfl) (by omega) ⟨Nat.le_refl _, Nat.le_refl _⟩ rfl (Nat.le_of_ble_eq_true rfl) (shorten_V (by omega) HC (by have := hw.1.2; omega)) ?_
          rintro _ h5 ⟨rfl, HC, ooh5⟩
          have oh5 : ∀ b : Nat, ¬ (b0 ≤ b ∧ b < b0 + 7) → h5 b = h1 b := fun b hb => ooh5 b (by omega)
          have H := H.kept C1_ok (fun b hb1 hb2 => oh5 b (by have hb3 : b < _ := hb2; simp only [C1] at hb3; omega))
          have HT1 := HT1.kept C8_ok (fun b hb1 hb2 => oh5 b (by have hb3 : b < _ := hb2; simp only [C8] at hb3; omega))
          have HT4 := HT4.kept (fun b hb1 hb2 => oh5 b (by omega))
          have hfr : ∀ b : Nat, ((b < b0 ∨ b0 + 7 ≤ b) ∧ (b < t + 13 ∨ t + 19 ≤ b)) → h5 b = h b := fun b hb => (oh5 b (by omega)).trans (hfr b hb)
          refine V.weak [some (.ref a), some (.ref (b0)), some (.int (men)), some (.int (x3)), some (.int (bI windy)), some (.int (nI i)), some (.int (nI e)), none, none, none] (by simp [leL, sto1, sto2, k2c]) ?_
          exact kk h5 _ H HT1 HT4 HC hfr (by
            unfold burnE
            first
            | rw [if_neg (by rw [bI_f c74]; decide)]
            | (rw [if_pos (bI_t c74)]
               unfold burnN
               first
               | (rw [if_pos c81, if_pos (show tW T 0 c2 i windy = ERR from (lg_cmp_eq _ _).mp c131)]; first | rw [bI_t c110] | rw [bI_f c110]
                  try rfl)
               | (rw [if_pos c81, if_neg (show ¬ tW T 0 c2 i windy = ERR from fun z => c131 ((lg_cmp_eq _ _).mpr z))]
                  try rfl)
               | (rw [if_neg c81]; first | rw [bI_t c110] | rw [bI_f c110]
                  try rfl)))
    · skip
      refine V.ldc2 kc_X1_53 dX1_pass_84 ?_
      refine V.goto 106 dX1_pass_87 (by decide) ?_
      refine V.lstore dX1_pass_106 (by decide) rfl ?_
      refine V.iload dX1_pass_108 rfl ?_
      refine V.if_eq 117 dX1_pass_110 (by decide) (fun c110 => ?_) (fun c110 => ?_)
      · skip
        refine V.iconst (v := 1) dX1_pass_117 (by decide) ?_
        refine V.istore dX1_pass_118 (by decide) rfl ?_
        refine V.aload_n dX1_pass_120 rfl ?_
        refine V.iload dX1_pass_121 rfl ?_
        refine V.iload dX1_pass_123 rfl ?_
        refine V.lload dX1_pass_125 rfl ?_
        refine V.ldc2 kc_X1_53 dX1_pass_127 ?_
        refine V.lcmp dX1_pass_130 ?_
        refine V.if_ne 139 dX1_pass_131 (by decide) (fun z => absurd ((lg_cmp_eq _ _).mpr rfl) z) (fun _ => ?_)
        refine V.iload dX1_pass_134 rfl ?_
        refine V.goto 146 dX1_pass_136 (by decide) ?_
        refine V.cV3 (ci := 0) yoX0_shorten ml_X1_69 im_X0_shorten se_X0_shorten dX1_pass_146 rfl HC.1 (Nat.le_of_ble_eq_true rfl) (by omega) ⟨Nat.le_refl _, Nat.le_refl _⟩ rfl (Nat.le_of_ble_eq_true rfl) (shorten_V (by omega) HC (by have := hw.1.2; omega)) ?_
        rintro _ h51 ⟨rfl, HC, ooh51⟩
        have oh51 : ∀ b : Nat, ¬ (b0 ≤ b ∧ b < b0 + 7) → h51 b = h2 b := fun b hb => ooh51 b (by omega)
        have H := H.kept C1_ok (fun b hb1 hb2 => oh51 b (by have hb3 : b < _ := hb2; simp only [C1] at hb3; omega))
        have HT1 := HT1.kept C8_ok (fun b hb1 hb2 => oh51 b (by have hb3 : b < _ := hb2; simp only [C8] at hb3; omega))
        have HT4 := HT4.kept (fun b hb1 hb2 => oh51 b (by omega))
        have hfr : ∀ b : Nat, ((b < b0 ∨ b0 + 7 ≤ b) ∧ (b < t + 13 ∨ t + 19 ≤ b)) → h51 b = h b := fun b hb => (oh51 b (by omega)).trans (hfr b hb)
        refine V.weak [some (.ref a), some (.ref (b0)), some (.int (men)), some (.int (x3)), some (.int (bI windy)), some (.int (nI i)), some (.int (nI e)), none, none, none] (by simp [leL, sto1, sto2, k2c]) ?_
        exact kk h51 _ H HT1 HT4 HC hfr (by
          unfold burnE
          first
          | rw [if_neg (by rw [bI_f c74]; decide)]
          | (rw [if_pos (bI_t c74)]
             unfold burnN
             first
             | (rw [if_pos c81, if_pos (show tW T 0 c2 i windy = ERR from (lg_cmp_eq _ _).mp c131)]; first | rw [bI_t c110] | rw [bI_f c110]
                try rfl)
             | (rw [if_pos c81, if_neg (show ¬ tW T 0 c2 i windy = ERR from fun z => c131 ((lg_cmp_eq _ _).mpr z))]
                try rfl)
             | (rw [if_neg c81]; first | rw [bI_t c110] | rw [bI_f c110]
                try rfl)))
      · skip
        refine V.iconst (v := 2) dX1_pass_113 (by decide) ?_
        refine V.goto 118 dX1_pass_114 (by decide) ?_
        refine V.istore dX1_pass_118 (by decide) rfl ?_
        refine V.aload_n dX1_pass_120 rfl ?_
        refine V.iload dX1_pass_121 rfl ?_
        refine V.iload dX1_pass_123 rfl ?_
        refine V.lload dX1_pass_125 rfl ?_
        refine V.ldc2 kc_X1_53 dX1_pass_127 ?_
        refine V.lcmp dX1_pass_130 ?_
        refine V.if_ne 139 dX1_pass_131 (by decide) (fun z => absurd ((lg_cmp_eq _ _).mpr rfl) z) (fun _ => ?_)
        refine V.iload dX1_pass_134 rfl ?_
        refine V.goto 146 dX1_pass_136 (by decide) ?_
        refine V.cV3 (ci := 0) yoX0_shorten ml_X1_69 im_X0_shorten se_X0_shorten dX1_pass_146 rfl HC.1 (Nat.le_of_ble_eq_true rfl) (by omega) ⟨Nat.le_refl _, Nat.le_refl _⟩ rfl (Nat.le_of_ble_eq_true rfl) (shorten_V (by omega) HC (by have := hw.1.2; omega)) ?_
        rintro _ h52 ⟨rfl, HC, ooh52⟩
        have oh52 : ∀ b : Nat, ¬ (b0 ≤ b ∧ b < b0 + 7) → h52 b = h2 b := fun b hb => ooh52 b (by omega)
        have H := H.kept C1_ok (fun b hb1 hb2 => oh52 b (by have hb3 : b < _ := hb2; simp only [C1] at hb3; omega))
        have HT1 := HT1.kept C8_ok (fun b hb1 hb2 => oh52 b (by have hb3 : b < _ := hb2; simp only [C8] at hb3; omega))
        have HT4 := HT4.kept (fun b hb1 hb2 => oh52 b (by omega))
        have hfr : ∀ b : Nat, ((b < b0 ∨ b0 + 7 ≤ b) ∧ (b < t + 13 ∨ t + 19 ≤ b)) → h52 b = h b := fun b hb => (oh52 b (by omega)).trans (hfr b hb)
        refine V.weak [some (.ref a), some (.ref (b0)), some (.int (men)), some (.int (x3)), some (.int (bI windy)), some (.int (nI i)), some (.int (nI e)), none, none, none] (by simp [leL, sto1, sto2, k2c]) ?_
        exact kk h52 _ H HT1 HT4 HC hfr (by
          unfold burnE
          first
          | rw [if_neg (by rw [bI_f c74]; decide)]
          | (rw [if_pos (bI_t c74)]
             unfold burnN
             first
             | (rw [if_pos c81, if_pos (show tW T 0 c2 i windy = ERR from (lg_cmp_eq _ _).mp c131)]; first | rw [bI_t c110] | rw [bI_f c110]
                try rfl)
             | (rw [if_pos c81, if_neg (show ¬ tW T 0 c2 i windy = ERR from fun z => c131 ((lg_cmp_eq _ _).mpr z))]
                try rfl)
             | (rw [if_neg c81]; first | rw [bI_t c110] | rw [bI_f c110]
                try rfl)))
set_option maxRecDepth 100000 in
set_option maxHeartbeats 2000000 in
theorem burnMan_V {d n0 : Nat} {κ : Kd} (hd : 5 ≤ d) {h h2 : Hp} {a t b0 i : Nat} {s c2 : St} {T : Tx} {windy : Bool} {men : Int32} {x3 : Int32} {P : Option Value → Hp → Prop} (hr : s.2.2.2 0 = t) (hw : wfT T) (hs1 : a < b0 ∨ b0 + 7 ≤ a) (hs2 : t + 19 ≤ b0 ∨ b0 + 7 ≤ t) (hs3 : a < t ∨ t + 19 ≤ a) (hi : i < nat (T.1.1 0)) (H : isR C1 h2 a s) (HT1 : isR C8 h2 t T.1) (HT4 : isL h2 (t + 13) T.2.2.2) (HC : isR C0 h2 b0 c2) (hfr : ∀ b : Nat, ((b < b0 ∨ b0 + 7 ≤ b) ∧ (b < t + 13 ∨ t + 19 ≤ b)) → h2 b = h b) (kk : ∀ (h3 : Hp) (c3 : St), isR C1 h3 a s → isR C8 h3 t T.1 → isL h3 (t + 13) T.2.2.2 → isR C0 h3 b0 c3 → (∀ b : Nat, ((b < b0 ∨ b0 + 7 ≤ b) ∧ (b < t + 13 ∨ t + 19 ≤ b)) → h3 b = h b) → burnP T men (s.1 2) (s.1 4) windy i c2 = c3 → V MX1_pass (d, 0, 0, n0, κ) 0 0 h3 155 [some (.ref a), some (.ref (b0)), some (.int (men)), some (.int (x3)), some (.int (bI windy)), some (.int (nI i)), none, none, none, none] [] P) : V MX1_pass (d, 0, 0, n0, κ) 0 0 h2 39 [some (.ref a), some (.ref (b0)), some (.int (men)), some (.int (x3)), some (.int (bI windy)), some (.int (nI i)), none, none, none, none] [] P := by
  refine V.iconst (v := nI 0) dX1_pass_39 (by decide) ?_
  refine V.istore dX1_pass_40 (by decide) rfl ?_
  refine V.iload dX1_pass_42 rfl ?_
  refine V.iconst (v := 2) dX1_pass_44 (by decide) ?_
  refine V.icmp_ge 155 dX1_pass_45 (by decide) (fun z => absurd z (by decide)) (fun _ => ?_)
  refine V.iload_n dX1_pass_48 rfl ?_
  refine V.iload dX1_pass_49 rfl ?_
  refine V.ishr dX1_pass_51 ?_
  refine V.iconst (v := 1) dX1_pass_52 (by decide) ?_
  refine V.iand dX1_pass_53 ?_
  refine V.if_eq 155 dX1_pass_54 (by decide) (fun c54 => ?_) (fun c54 => ?_)
  · skip
    have hbar : ¬ (litB men (nI i) = true ∧ ¬ nI i = s.1 2) := fun z => (show ¬ litB men (nI i) = true from fun z => by unfold litB at z; simp only [decide_eq_true_eq] at z; exact z c54) z.1
    refine V.weak [some (.ref a), some (.ref (b0)), some (.int (men)), some (.int (x3)), some (.int (bI windy)), some (.int (nI i)), none, none, none, none] (by simp [leL, sto1, sto2, k2c]) ?_
    exact kk h2 _ H HT1 HT4 HC hfr (by unfold burnP; rw [if_neg hbar])
  · skip
    refine V.iload dX1_pass_57 rfl ?_
    refine V.aload_n dX1_pass_59 rfl ?_
    refine V.getf okX1 2 fl_X1_18 dX1_pass_60 (by decide) H.1 rfl ?_
    refine V.icmp_eq 155 dX1_pass_63 (by decide) (fun c63 => ?_) (fun c63 => ?_)
    · skip
      have hbar : ¬ (litB men (nI i) = true ∧ ¬ nI i = s.1 2) := fun z => z.2 c63
      refine V.weak [some (.ref a), some (.ref (b0)), some (.int (men)), some (.int (x3)), some (.int (bI windy)), some (.int (nI i)), none, none, none, none] (by simp [leL, sto1, sto2, k2c]) ?_
      exact kk h2 _ H HT1 HT4 HC hfr (by unfold burnP; rw [if_neg hbar])
    · skip
      refine V.weak [some (.ref a), some (.ref (b0)), some (.int (men)), some (.int (x3)), some (.int (bI windy)), some (.int (nI i)), some (.int (nI 0)), none, none, none] (by simp [leL, sto1, sto2, k2c] <;> rfl) ?_
      refine burnEnd_V (by omega) hr hw hs1 hs2 hs3 hi H HT1 HT4 HC hfr (fun h3 c3 H HT1 HT4 HC hfr hE0 => ?_)
      refine V.iinc (v := 1) dX1_pass_149 rfl (by decide) (by decide) rfl ?_
      refine V.goto 42 dX1_pass_152 (by decide) ?_
      refine V.iload dX1_pass_42 rfl ?_
      refine V.iconst (v := 2) dX1_pass_44 (by decide) ?_
      refine V.icmp_ge 155 dX1_pass_45 (by decide) (fun z => absurd z (by decide)) (fun _ => ?_)
      refine V.iload_n dX1_pass_48 rfl ?_
      refine V.iload dX1_pass_49 rfl ?_
      refine V.ishr dX1_pass_51 ?_
      refine V.iconst (v := 1) dX1_pass_52 (by decide) ?_
      refine V.iand dX1_pass_53 ?_
      refine V.if_eq 155 dX1_pass_54 (by decide) (fun z => absurd z (c54)) (fun _ => ?_)
      refine V.iload dX1_pass_57 rfl ?_
      refine V.aload_n dX1_pass_59 rfl ?_
      refine V.getf okX1 2 fl_X1_18 dX1_pass_60 (by decide) H.1 rfl ?_
      refine V.icmp_eq 155 dX1_pass_63 (by decide) (fun z => absurd z (c63)) (fun _ => ?_)
      refine V.weak [some (.ref a), some (.ref (b0)), some (.int (men)), some (.int (x3)), some (.int (bI windy)), some (.int (nI i)), some (.int (nI 1)), none, none, none] (by simp [leL, sto1, sto2, k2c] <;> rfl) ?_
      refine burnEnd_V (by omega) hr hw hs1 hs2 hs3 hi H HT1 HT4 HC hfr (fun h4 c4 H HT1 HT4 HC hfr hE1 => ?_)
      refine V.iinc (v := 1) dX1_pass_149 rfl (by decide) (by decide) rfl ?_
      refine V.goto 42 dX1_pass_152 (by decide) ?_
      refine V.iload dX1_pass_42 rfl ?_
      refine V.iconst (v := 2) dX1_pass_44 (by decide) ?_
      refine V.icmp_ge 155 dX1_pass_45 (by decide) (fun _ => ?_) (fun z => absurd (by decide) z)
      refine V.weak [some (.ref a), some (.ref (b0)), some (.int (men)), some (.int (x3)), some (.int (bI windy)), some (.int (nI i)), none, none, none, none] (by simp [leL, sto1, sto2, k2c]) ?_
      exact kk h4 _ H HT1 HT4 HC hfr (by unfold burnP; rw [if_pos ⟨by unfold litB; simp only [decide_eq_true_eq]; exact c54, c63⟩]; exact (congrArg (burnE T (s.1 4) windy i 1) hE0).trans hE1)
set_option maxRecDepth 100000 in
set_option maxHeartbeats 4000000 in
theorem pass_V {d n0 : Nat} {κ : Kd} (hd : 7 ≤ d) {h : Hp} {a t b0 : Nat} {s c : St} {T : Tx} {men : Int32} {look : Bool} (H : isR C1 h a s) (hr : s.2.2.2 0 = t) (HT : isT h t T) (hw : wfT T) (HC : isR C0 h b0 c) (hp : c.1 0 = T.1.1 0) (hs1 : a < b0 ∨ b0 + 7 ≤ a) (hs2 : t + 19 ≤ b0 ∨ b0 + 7 ≤ t) (hs3 : a < t ∨ t + 19 ≤ a) : V MX1_pass (d, 0, 0, n0, κ) 0 0 h 0 [some (.ref a), some (.ref (b0)), some (.int (men)), some (.int (bI look)), none, none, none, none, none, none] [] (fun v h' => v = none ∧ isR C0 h' b0 (passS T s.1 men look c) ∧ isL h' (t + 13) T.2.2.2 ∧ ∀ b : Nat, ((b < b0 ∨ b0 + 7 ≤ b) ∧ (b < t + 13 ∨ t + 19 ≤ b)) → h' b = h b) := by
  obtain ⟨HT1, HT2, HT3, HT4⟩ := HT
  have hJ : ∀ (h2 : Hp) (c2 : St), isR C1 h2 a s → isR C8 h2 t T.1 → isL h2 (t + 13) T.2.2.2 → isR C0 h2 b0 c2 → (∀ b : Nat, ((b < b0 ∨ b0 + 7 ≤ b) ∧ (b < t + 13 ∨ t + 19 ≤ b)) → h2 b = h b) → (if look then shineF T (windK (s.1 1) T (cLB T men (s.1 3) c)).1 (litM ((windK (s.1 1) T (cLB T men (s.1 3) c)).2.2.1 5) (nat (T.1.1 0))) (nat (T.1.1 0)) 0 (windK (s.1 1) T (cLB T men (s.1 3) c)).2 else (windK (s.1 1) T (cLB T men (s.1 3) c)).2) = c2 → V MX1_pass (d, 0, 0, n0, κ) 0 0 h2 24 [some (.ref a), some (.ref (b0)), some (.int (men)), some (.int (bI look)), some (.int (bI (windK (s.1 1) T (cLB T men (s.1 3) c)).1)), none, none, none, none, none] [] (fun v h' => v = none ∧ isR C0 h' b0 (passS T s.1 men look c) ∧ isL h' (t + 13) T.2.2.2 ∧ ∀ b : Nat, ((b < b0 ∨ b0 + 7 ≤ b) ∧ (b < t + 13 ∨ t + 19 ≤ b)) → h' b = h b) := by
    intro h2 c2 H HT1 HT4 HC hfr hc2
    refine V.iconst (v := nI 0) dX1_pass_24 (by decide) ?_
    refine V.istore dX1_pass_25 (by decide) rfl ?_
    suffices hL : ∀ (k i : Nat) (h2 : Hp) (c2 : St), i + k = nat (T.1.1 0) → isR C1 h2 a s → isR C8 h2 t T.1 → isL h2 (t + 13) T.2.2.2 → isR C0 h2 b0 c2 → (∀ b : Nat, ((b < b0 ∨ b0 + 7 ≤ b) ∧ (b < t + 13 ∨ t + 19 ≤ b)) → h2 b = h b) → burnF T men (s.1 2) (s.1 4) (windK (s.1 1) T (cLB T men (s.1 3) c)).1 k i c2 = burnF T men (s.1 2) (s.1 4) (windK (s.1 1) T (cLB T men (s.1 3) c)).1 (nat (T.1.1 0)) 0 (if look then shineF T (windK (s.1 1) T (cLB T men (s.1 3) c)).1 (litM ((windK (s.1 1) T (cLB T men (s.1 3) c)).2.2.1 5) (nat (T.1.1 0))) (nat (T.1.1 0)) 0 (windK (s.1 1) T (cLB T men (s.1 3) c)).2 else (windK (s.1 1) T (cLB T men (s.1 3) c)).2) → V MX1_pass (d, 0, 0, n0, κ) 0 0 h2 27 [some (.ref a), some (.ref (b0)), some (.int (men)), some (.int (bI look)), some (.int (bI (windK (s.1 1) T (cLB T men (s.1 3) c)).1)), some (.int (nI i)), none, none, none, none] [] (fun v h' => v = none ∧ isR C0 h' b0 (passS T s.1 men look c) ∧ isL h' (t + 13) T.2.2.2 ∧ ∀ b : Nat, ((b < b0 ∨ b0 + 7 ≤ b) ∧ (b < t + 13 ∨ t + 19 ≤ b)) → h' b = h b) from hL (nat (T.1.1 0)) 0 h2 c2 (by omega) H HT1 HT4 HC hfr (by rw [hc2])
    clear hc2 HC hfr HT4 HT1 H
    intro k
    induction k with
    | zero =>
      intro i h2 c2 hik H HT1 HT4 HC hfr hv
      have hv : c2 = burnF T men (s.1 2) (s.1 4) (windK (s.1 1) T (cLB T men (s.1 3) c)).1 (nat (T.1.1 0)) 0 (if look then shineF T (windK (s.1 1) T (cLB T men (s.1 3) c)).1 (litM ((windK (s.1 1) T (cLB T men (s.1 3) c)).2.2.1 5) (nat (T.1.1 0))) (nat (T.1.1 0)) 0 (windK (s.1 1) T (cLB T men (s.1 3) c)).2 else (windK (s.1 1) T (cLB T men (s.1 3) c)).2) := hv
      refine V.iload dX1_pass_27 rfl ?_
      refine V.aload_n dX1_pass_29 rfl ?_
      refine V.getf (v := .ref (t)) okX1 0 fl_X1_12 dX1_pass_30 (by decide) H.1 (congrArg (fun z => some (Value.ref z)) (hr)) ?_
      refine V.getf okX8 0 fl_X1_44 dX1_pass_33 (by decide) HT1.1 rfl ?_
      refine V.icmp_ge 161 dX1_pass_36 (by decide) (fun _ => ?_) (fun z => absurd (by show T.1.1 0 ≤ nI i; rw [hw.1.1, show i = nat (T.1.1 0) by omega]; exact nI_le (Nat.le_refl _) (by have := hw.1.2; omega)) z)
      refine V.aload_n dX1_pass_161 rfl ?_
      refine V.dup dX1_pass_162 rfl ?_
      refine V.getf okX0 7 fl_X1_73 dX1_pass_163 (by decide) HC.1 rfl ?_
      refine V.iconst (v := 1) dX1_pass_166 (by decide) ?_
      refine V.iadd dX1_pass_167 ?_
      refine V.putfH okX0 7 fl_X1_73 dX1_pass_168 (by decide) rfl HC.1 (rfl) (rfl) (Nat.le_of_ble_eq_true rfl) (fun h1 eh1 oh1 => ?_)
      have HC := isR.setI C0_ok HC 7 _ (fun _ _ => rfl) eh1 oh1
      have H := H.kept C1_ok (fun b hb1 hb2 => oh1 b (by have hb3 : b < _ := hb2; simp only [C1] at hb3; omega))
      have HT1 := HT1.kept C8_ok (fun b hb1 hb2 => oh1 b (by have hb3 : b < _ := hb2; simp only [C8] at hb3; omega))
      have HT4 := HT4.kept (fun b hb1 hb2 => oh1 b (by omega))
      have hfr : ∀ b : Nat, ((b < b0 ∨ b0 + 7 ≤ b) ∧ (b < t + 13 ∨ t + 19 ≤ b)) → h1 b = h b := fun b hb => (oh1 b (by omega)).trans (hfr b hb)
      refine V.vret dX1_pass_171 rfl ?_
      exact ⟨rfl, by unfold passS; simp only; rw [← hv]; exact HC, HT4, hfr⟩
    | succ k ih =>
      intro i h2 c2 hik H HT1 HT4 HC hfr hv
      refine V.iload dX1_pass_27 rfl ?_
      refine V.aload_n dX1_pass_29 rfl ?_
      refine V.getf (v := .ref (t)) okX1 0 fl_X1_12 dX1_pass_30 (by decide) H.1 (congrArg (fun z => some (Value.ref z)) (hr)) ?_
      refine V.getf okX8 0 fl_X1_44 dX1_pass_33 (by decide) HT1.1 rfl ?_
      refine V.icmp_ge 161 dX1_pass_36 (by decide) (fun z => absurd z (by show ¬ T.1.1 0 ≤ nI i; rw [hw.1.1]; exact nI_ge (by omega) (by have := hw.1.2; omega))) (fun _ => ?_)
      refine V.weak [some (.ref a), some (.ref (b0)), some (.int (men)), some (.int (bI look)), some (.int (bI (windK (s.1 1) T (cLB T men (s.1 3) c)).1)), some (.int (nI i)), none, none, none, none] (by simp [leL, sto1, sto2, k2c]) ?_
      refine burnMan_V (by omega) hr hw hs1 hs2 hs3 (by omega) H HT1 HT4 HC hfr (fun h3 c3 H HT1 HT4 HC hfr hE => ?_)
      refine V.iinc (v := 1) dX1_pass_155 rfl (by decide) (by decide) rfl ?_
      refine V.goto 27 dX1_pass_158 (by decide) ?_
      refine V.weak [some (.ref a), some (.ref (b0)), some (.int (men)), some (.int (bI look)), some (.int (bI (windK (s.1 1) T (cLB T men (s.1 3) c)).1)), some (.int (nI (i + 1))), none, none, none, none] (by simp [leL, sto1, sto2, k2c, nI_1]) ?_
      exact ih (i + 1) h3 c3 (by omega) H HT1 HT4 HC hfr (by rw [← hv, burnF, hE])
  have hfr : ∀ b : Nat, ((b < b0 ∨ b0 + 7 ≤ b) ∧ (b < t + 13 ∨ t + 19 ≤ b)) → h b = h b := fun _ _ => rfl
  refine V.aload_n dX1_pass_0 rfl ?_
  refine V.aload_n dX1_pass_1 rfl ?_
  refine V.iload_n dX1_pass_2 rfl ?_
  refine V.cV2 (ci := 1) yoX1_lightAndBlow ml_X1_32 im_X1_lightAndBlow se_X1_lightAndBlow dX1_pass_3 rfl H.1 (Nat.le_of_ble_eq_true rfl) (by omega) ⟨Nat.le_refl _, Nat.le_refl _⟩ rfl (Nat.le_of_ble_eq_true rfl) (lightAndBlow_V (by omega) H hr ⟨HT1, HT2, HT3, HT4⟩ hw HC hs1 hs2) ?_
  rintro _ h1 ⟨rfl, HC, ooh1⟩
  have oh1 : ∀ b : Nat, ¬ (b0 ≤ b ∧ b < b0 + 7) → h1 b = h b := fun b hb => ooh1 b (by omega)
  have H := H.kept C1_ok (fun b hb1 hb2 => oh1 b (by have hb3 : b < _ := hb2; simp only [C1] at hb3; omega))
  have HT1 := HT1.kept C8_ok (fun b hb1 hb2 => oh1 b (by have hb3 : b < _ := hb2; simp only [C8] at hb3; omega))
  have HT2 := HT2.kept C2_ok (fun b hb1 hb2 => oh1 b (by have hb3 : b < _ := hb2; simp only [C2] at hb3; omega))
  have HT3 := HT3.kept C2_ok (fun b hb1 hb2 => oh1 b (by have hb3 : b < _ := hb2; simp only [C2] at hb3; omega))
  have HT4 := HT4.kept (fun b hb1 hb2 => oh1 b (by omega))
  have hfr : ∀ b : Nat, ((b < b0 ∨ b0 + 7 ≤ b) ∧ (b < t + 13 ∨ t + 19 ≤ b)) → h1 b = h b := fun b hb => (oh1 b (by omega)).trans (hfr b hb)
  refine V.aload_n dX1_pass_6 rfl ?_
  refine V.aload_n dX1_pass_7 rfl ?_
  refine V.cV1 (ci := 1) yoX1_isWindy ml_X1_36 im_X1_isWindy se_X1_isWindy dX1_pass_8 rfl H.1 (Nat.le_of_ble_eq_true rfl) (by omega) ⟨Nat.le_refl _, Nat.le_refl _⟩ rfl (Nat.le_of_ble_eq_true rfl) (isWindy_V (by omega) H hr ⟨HT1, HT2, HT3, HT4⟩ HC hs1 hs2) ?_
  rintro _ h2 ⟨rfl, HC, ooh2⟩
  have oh2 : ∀ b : Nat, ¬ (b0 ≤ b ∧ b < b0 + 7) → h2 b = h1 b := fun b hb => ooh2 b (by omega)
  have H := H.kept C1_ok (fun b hb1 hb2 => oh2 b (by have hb3 : b < _ := hb2; simp only [C1] at hb3; omega))
  have HT1 := HT1.kept C8_ok (fun b hb1 hb2 => oh2 b (by have hb3 : b < _ := hb2; simp only [C8] at hb3; omega))
  have HT2 := HT2.kept C2_ok (fun b hb1 hb2 => oh2 b (by have hb3 : b < _ := hb2; simp only [C2] at hb3; omega))
  have HT3 := HT3.kept C2_ok (fun b hb1 hb2 => oh2 b (by have hb3 : b < _ := hb2; simp only [C2] at hb3; omega))
  have HT4 := HT4.kept (fun b hb1 hb2 => oh2 b (by omega))
  have hfr : ∀ b : Nat, ((b < b0 ∨ b0 + 7 ≤ b) ∧ (b < t + 13 ∨ t + 19 ≤ b)) → h2 b = h b := fun b hb => (oh2 b (by omega)).trans (hfr b hb)
  refine V.istore dX1_pass_11 (by decide) rfl ?_
  refine V.iload_n dX1_pass_13 rfl ?_
  refine V.if_eq 24 dX1_pass_14 (by decide) (fun c14 => ?_) (fun c14 => ?_)
  · skip
    have hl : look = false := bI_f c14
    refine V.weak [some (.ref a), some (.ref (b0)), some (.int (men)), some (.int (bI look)), some (.int (bI (windK (s.1 1) T (cLB T men (s.1 3) c)).1)), none, none, none, none, none] (by simp [leL, sto1, sto2, k2c]) ?_
    exact hJ h2 _ H HT1 HT4 HC hfr (by rw [hl]; rfl)
  · skip
    have hl : look = true := bI_t c14
    refine V.aload_n dX1_pass_17 rfl ?_
    refine V.aload_n dX1_pass_18 rfl ?_
    refine V.iload dX1_pass_19 rfl ?_
    refine V.cV2 (ci := 1) yoX1_shine ml_X1_40 im_X1_shine se_X1_shine dX1_pass_21 rfl H.1 (Nat.le_of_ble_eq_true rfl) (by omega) ⟨Nat.le_refl _, Nat.le_refl _⟩ rfl (Nat.le_of_ble_eq_true rfl) (shine_V (by omega) H hr ⟨HT1, HT2, HT3, HT4⟩ HC hs1 hs2 hw (by rw [windK_0 _ _ _ _ (by decide), cLB_0 _ _ _ _ _ (by decide), hp]; exact hw.1.1) hs3) ?_
    rintro _ h3 ⟨rfl, HC, HT4, ooh3⟩
    have oh3 : ∀ b : Nat, ¬ ((b0 ≤ b ∧ b < b0 + 7) ∨ (t + 13 ≤ b ∧ b < t + 19)) → h3 b = h2 b := fun b hb => ooh3 b (by omega)
    have H := H.kept C1_ok (fun b hb1 hb2 => oh3 b (by have hb3 : b < _ := hb2; simp only [C1] at hb3; omega))
    have HT1 := HT1.kept C8_ok (fun b hb1 hb2 => oh3 b (by have hb3 : b < _ := hb2; simp only [C8] at hb3; omega))
    have HT2 := HT2.kept C2_ok (fun b hb1 hb2 => oh3 b (by have hb3 : b < _ := hb2; simp only [C2] at hb3; omega))
    have HT3 := HT3.kept C2_ok (fun b hb1 hb2 => oh3 b (by have hb3 : b < _ := hb2; simp only [C2] at hb3; omega))
    have hfr : ∀ b : Nat, ((b < b0 ∨ b0 + 7 ≤ b) ∧ (b < t + 13 ∨ t + 19 ≤ b)) → h3 b = h b := fun b hb => (oh3 b (by omega)).trans (hfr b hb)
    refine V.weak [some (.ref a), some (.ref (b0)), some (.int (men)), some (.int (bI look)), some (.int (bI (windK (s.1 1) T (cLB T men (s.1 3) c)).1)), none, none, none, none, none] (by simp [leL, sto1, sto2, k2c]) ?_
    exact hJ h3 _ H HT1 HT4 HC hfr (by rw [hl]; rfl)
