/-! conjunction, expression of the model: levels of reading -/
set_option maxRecDepth 100000 in
set_option maxHeartbeats 4000000 in
theorem conjunction1_M {d n0 a : Nat} {κ : Kd} {h0 : Hp} (hd : 5 ≤ d) {s : St} (hf : ¬ s.1 27 = 0) : MV MX12_conjunction (d, 0, 0, n0, κ) a h0 s 0 (some (.ref a) :: []) [] (fun v s' => v = none ∧ s' = s) := by
  refine MV.aload_n dX12_conjunction_0 rfl ?_
  refine MV.cV0 yoX12_negation ml_X12_282 im_X12_negation se_X12_negation dX12_conjunction_1 rfl (Nat.le_of_ble_eq_true rfl) (by omega) rfl (Nat.le_of_ble_eq_true rfl) (negation1_M (s := s) (by omega) hf) ?_
  rintro _ _ ⟨rfl, rfl⟩
  refine MV.aload_n dX12_conjunction_4 rfl ?_
  refine MV.bipush (v := 12) dX12_conjunction_5 (by decide) ?_
  refine MV.cV1 yoX12_isWord ml_X12_273 im_X12_isWord se_X12_isWord dX12_conjunction_7 rfl (Nat.le_of_ble_eq_true rfl) (by omega) rfl (Nat.le_of_ble_eq_true rfl) (isWord_M (by omega)) (MV.rdK ?_)
  refine MV.eqi 0 (bI_df (fun z => hf z.1)) ?_
  refine MV.if_eq 36 dX12_conjunction_10 (by decide) (fun _ => ?_) (fun z => absurd (rfl) z)
  refine MV.vret dX12_conjunction_36 rfl ?_
  exact ⟨rfl, rfl⟩
set_option maxRecDepth 100000 in
set_option maxHeartbeats 8000000 in
theorem conjunction_X {κ : Kd} {n0 a : Nat} {h0 : Hp} {b : Nat → Int32} {n : Nat} {C : Cx} (hn : n ≤ 700) (hbb : ∀ k, k < n → ¬ b k = -1 ∧ b k < 256) {N : Nat} (hC : XC κ n0 a h0 b n C MX12_negation 13 3 [none] N) : XC κ n0 a h0 b n C MX12_conjunction 14 2 [] N := by
  intro d s F m q L W o hmu hrel ok hF hd hm1 hm2 hW
  have hW2 : ∀ x r, W = x :: r → lvl x < 2 := fun x r hx => by have := hW x r hx; rwa [if_neg (by decide)] at this
  have hbad : ∀ s2, frQ s s2 → FT b n F m (mkS C q L W o) s2 → MV MX12_conjunction (d, 0, 0, n0, κ) a h0 s2 4 [some (.ref a)] [] (XP b n C F m q L W o 2 s) := by
    intro s2 hfr hno
    refine MV.aload_n dX12_conjunction_4 rfl ?_
    refine MV.bipush (v := 12) dX12_conjunction_5 (by decide) ?_
    refine MV.cV1 yoX12_isWord ml_X12_273 im_X12_isWord se_X12_isWord dX12_conjunction_7 rfl (Nat.le_of_ble_eq_true rfl) (by omega) rfl (Nat.le_of_ble_eq_true rfl) (isWord_M (by omega)) (MV.rdK ?_)
    refine MV.eqi 0 (bI_df (fun z => hno.ne z.1)) ?_
    refine MV.if_eq 36 dX12_conjunction_10 (by decide) (fun _ => ?_) (fun z => absurd (rfl) z)
    refine MV.vret dX12_conjunction_36 rfl ?_
    exact ⟨rfl, hfr, Or.inl hno⟩
  have hloop : ∀ (j : Nat) (q1 : Tk) (L1 L2 : St) (W2 : List Int32) (F2 : Nat) (s2 : St), mu n q1 ≤ j → frQ s s2 → PR b n C F m q L W o 2 q1 L1 L2 W2 F2 → stO 3 q1 L2 W2 → relQ b n s2 q1 L1 o → MV MX12_conjunction (d, 0, 0, n0, κ) a h0 s2 4 [some (.ref a)] [] (XP b n C F m q L W o 2 s) := by
    intro j
    induction j with
    | zero => intro q1 L1 L2 W2 F2 s2 hj _ _ _ _; exact absurd (mu_1 n q1) (by omega)
    | succ j ih =>
      intro q1 L1 L2 W2 F2 s2 hj hfr hp hst0 hr
      by_cases hq : q1.2.1 = 19
      · skip
        obtain ⟨k, hkk⟩ : ∃ k, k = q1.2.1 := ⟨_, rfl⟩
        have hb : isBin k = true := by rw [hkk, hq]; decide
        have hl : lvl k = 2 := by rw [hkk, hq]; decide
        have hao : isAO k = true := by rw [hkk, hq]; decide
        have hval2 : (261 : Int32) = sgV k := by rw [hkk, hq]; decide
        have h22 : MV MX12_conjunction (d, 0, 0, n0, κ) a h0 s2 13 [some (.ref a)] [] (XP b n C F m q L W o 2 s) := by
          by_cases hk : L1.1 0 < 64
          · skip
            obtain ⟨e1, g2, g3, g4, g5, g6⟩ := hp.sign hW2 hkk.symm hb hl (fun z => absurd z (by decide)) hk
            have hr3 := hr.knot
            have hk64 : ¬ s2.1 32 = 64 := by rw [hr.2.2.2.2.2.1]; intro z; rw [z] at hk; exact absurd hk (by decide)
            have g8 := hp.2.2.2.2.2.2.2
            have g9 := hp.2.2.2.1
            refine MV.aload_n dX12_conjunction_13 rfl ?_
            refine MV.cV0 yoX12_knot ml_X12_276 im_X12_knot se_X12_knot dX12_conjunction_14 rfl (Nat.le_of_ble_eq_true rfl) (by omega) rfl (Nat.le_of_ble_eq_true rfl) (knot0_M (by omega) hr.2.2.2.2.1 hk64) ?_
            rintro _ _ ⟨rfl, rfl⟩
            refine MV.aload_n dX12_conjunction_17 rfl ?_
            refine MV.cV0 yoX12_goOn ml_X12_225 im_X12_goOn se_X12_goOn dX12_conjunction_18 rfl (Nat.le_of_ble_eq_true rfl) (by omega) rfl (Nat.le_of_ble_eq_true rfl) (hr3.goOn (by omega) hn hbb) ?_
            rintro _ s4 ⟨rfl, hk4, hr4⟩
            have hf2 := (hfr.i (j := 32) (by decide)).k2 hk4
            refine MV.aload_n dX12_conjunction_21 rfl ?_
            refine MV.cV0 yoX12_negation ml_X12_282 im_X12_negation se_X12_negation dX12_conjunction_22 rfl (Nat.le_of_ble_eq_true rfl) (by omega) rfl (Nat.le_of_ble_eq_true rfl) (hC (d - 1) s4 (F2 - 1) (isAO k) (tokN b n q1) (lKnot L1) (k :: W) o (by omega) hr4 g4 g2 (by omega) (fun _ => hao) (fun z => absurd z (by decide)) (fun x r hx => by cases hx; rw [hl]; decide)) ?_
            rintro _ s5 ⟨rfl, hf5, hx5⟩
            rcases hx5 with hx5 | ⟨q3, L3, L4, W4, F4, p3, hstp3, hr5⟩
            · skip
              refine MV.aload_n dX12_conjunction_25 rfl ?_
              refine MV.iconst (v := 2) dX12_conjunction_26 (by decide) ?_
              refine MV.sipush (v := 261) dX12_conjunction_27 (by decide) ?_
              refine MV.cV2 yoX12_puts ml_X12_279 im_X12_puts se_X12_puts dX12_conjunction_30 rfl (Nat.le_of_ble_eq_true rfl) (by omega) rfl (Nat.le_of_ble_eq_true rfl) (puts1_M (s := s5) (by omega) hx5.ne) ?_
              rintro _ _ ⟨rfl, rfl⟩
              refine MV.goto 4 dX12_conjunction_33 (by decide) ?_
              exact MV.weak [some (.ref a)] (by simp [leL, sto1, sto2, k2c]) (hbad _ (hf2.tr hf5) (hx5.of e1))
            · skip
              have c5 := p3.2.2.2.2.1
              obtain ⟨ho3, ho4⟩ := okL_pop c5 (bin_31 hb).1
              have hf5 := hf2.tr hf5
              have hmu3 := p3.2.2.2.1
              refine MV.aload_n dX12_conjunction_25 rfl ?_
              refine MV.iconst (v := 2) dX12_conjunction_26 (by decide) ?_
              refine MV.sipush (v := 261) dX12_conjunction_27 (by decide) ?_
              refine MV.cV2 yoX12_puts ml_X12_279 im_X12_puts se_X12_puts dX12_conjunction_30 rfl (Nat.le_of_ble_eq_true rfl) (by omega) rfl (Nat.le_of_ble_eq_true rfl) (puts0_M (s := s5) (p := nat (L3.1 1)) (by omega) hr5.2.2.2.2.1 (hr5.2.2.2.2.2.2.2.1.trans c5.2.1.1) ho3) ?_
              rintro _ _ ⟨rfl, rfl⟩
              refine MV.goto 4 dX12_conjunction_33 (by decide) ?_
              exact MV.weak [some (.ref a)] (by simp [leL, sto1, sto2, k2c]) (ih q3 (pl L3 k 0) L4 W4 F4 _ (by omega) (hf5.p) (hp.next e1 hkk.symm hb hl hk p3 (by decide)) hstp3 (hr5.put ho3 (Or.inr (Or.inr ⟨by rw [takes_bin hb]; decide, rfl, hval2⟩))))
          · skip
            have hft : FT b n F m (mkS C q L W o) (mI (mI s2 27 2) 28 (s2.1 24)) := FT.w hr (by decide) (hp.sign_no hW2 hkk.symm hb hl (fun z => absurd z (by decide)) hk)
            refine MV.aload_n dX12_conjunction_13 rfl ?_
            refine MV.cV0 yoX12_knot ml_X12_276 im_X12_knot se_X12_knot dX12_conjunction_14 rfl (Nat.le_of_ble_eq_true rfl) (by omega) rfl (Nat.le_of_ble_eq_true rfl) (knotF_M (by omega) hr.2.2.2.2.1 (hr.2.2.2.2.2.1.trans (knot_ge hp.2.2.2.2.1.1 hk))) ?_
            rintro _ _ ⟨rfl, rfl⟩
            refine MV.aload_n dX12_conjunction_17 rfl ?_
            refine MV.cV0 yoX12_goOn ml_X12_225 im_X12_goOn se_X12_goOn dX12_conjunction_18 rfl (Nat.le_of_ble_eq_true rfl) (by omega) rfl (Nat.le_of_ble_eq_true rfl) (goOn1_M (s := mI (mI s2 27 2) 28 (s2.1 24)) (by omega) hft.ne) ?_
            rintro _ _ ⟨rfl, rfl⟩
            refine MV.aload_n dX12_conjunction_21 rfl ?_
            refine MV.cV0 yoX12_negation ml_X12_282 im_X12_negation se_X12_negation dX12_conjunction_22 rfl (Nat.le_of_ble_eq_true rfl) (by omega) rfl (Nat.le_of_ble_eq_true rfl) (negation1_M (s := mI (mI s2 27 2) 28 (s2.1 24)) (by omega) hft.ne) ?_
            rintro _ _ ⟨rfl, rfl⟩
            refine MV.aload_n dX12_conjunction_25 rfl ?_
            refine MV.iconst (v := 2) dX12_conjunction_26 (by decide) ?_
            refine MV.sipush (v := 261) dX12_conjunction_27 (by decide) ?_
            refine MV.cV2 yoX12_puts ml_X12_279 im_X12_puts se_X12_puts dX12_conjunction_30 rfl (Nat.le_of_ble_eq_true rfl) (by omega) rfl (Nat.le_of_ble_eq_true rfl) (puts1_M (s := mI (mI s2 27 2) 28 (s2.1 24)) (by omega) hft.ne) ?_
            rintro _ _ ⟨rfl, rfl⟩
            refine MV.goto 4 dX12_conjunction_33 (by decide) ?_
            exact MV.weak [some (.ref a)] (by simp [leL, sto1, sto2, k2c]) (hbad _ ((hfr.i (by decide)).i (by decide)) hft)
        have hq := hq
        refine MV.aload_n dX12_conjunction_4 rfl ?_
        refine MV.bipush (v := 12) dX12_conjunction_5 (by decide) ?_
        refine MV.cV1 yoX12_isWord ml_X12_273 im_X12_isWord se_X12_isWord dX12_conjunction_7 rfl (Nat.le_of_ble_eq_true rfl) (by omega) rfl (Nat.le_of_ble_eq_true rfl) (isWord_M (by omega)) (MV.rdK ?_)
        refine MV.eqi 1 (bI_dt ((hr.isW (j := 12) (c := 12) (k := 19) (by decide) (by decide) (by decide)).mpr hq)) ?_
        refine MV.if_eq 36 dX12_conjunction_10 (by decide) (fun z => absurd z (show ¬ (1 : Int32) = 0 by decide)) (fun _ => ?_)
        exact h22
      · skip
        have hx0 := hq
        have hstp : stO 2 q1 L2 W2 := fun hbn => (hst0 hbn).imp (fun z => lvl_dn2 z hbn hq) id
        refine MV.aload_n dX12_conjunction_4 rfl ?_
        refine MV.bipush (v := 12) dX12_conjunction_5 (by decide) ?_
        refine MV.cV1 yoX12_isWord ml_X12_273 im_X12_isWord se_X12_isWord dX12_conjunction_7 rfl (Nat.le_of_ble_eq_true rfl) (by omega) rfl (Nat.le_of_ble_eq_true rfl) (isWord_M (by omega)) (MV.rdK ?_)
        refine MV.eqi 0 (bI_df (fun z => hx0 ((hr.isW (j := 12) (c := 12) (k := 19) (by decide) (by decide) (by decide)).mp z))) ?_
        refine MV.if_eq 36 dX12_conjunction_10 (by decide) (fun _ => ?_) (fun z => absurd (rfl) z)
        refine MV.vret dX12_conjunction_36 rfl ?_
        exact ⟨rfl, hfr, Or.inr ⟨q1, L1, L2, W2, F2, hp, hstp, hr⟩⟩
  refine MV.aload_n dX12_conjunction_0 rfl ?_
  refine MV.cV0 yoX12_negation ml_X12_282 im_X12_negation se_X12_negation dX12_conjunction_1 rfl (Nat.le_of_ble_eq_true rfl) (by omega) rfl (Nat.le_of_ble_eq_true rfl) (hC (d - 1) s F m q L W o hmu hrel ok hF (by omega) (fun _ => hm1 (by decide)) (fun z => absurd z (by decide)) (fun x r hx => by rw [if_pos rfl]; exact Int32.lt_trans (hW2 x r hx) (by decide))) ?_
  rintro _ s5 ⟨rfl, hf5, hx5⟩
  rcases hx5 with hx5 | ⟨q1, L1, L2, W2, F2, hp, hst, hr⟩
  · exact hbad s5 hf5 hx5
  · exact hloop (mu n q1) q1 L1 L2 W2 F2 s5 (Nat.le_refl _) hf5 (hp.down (by decide)) hst hr
set_option maxRecDepth 100000 in
set_option maxHeartbeats 4000000 in
theorem expression1_M {d n0 a : Nat} {κ : Kd} {h0 : Hp} (hd : 6 ≤ d) {s : St} (hf : ¬ s.1 27 = 0) : MV MX12_expression (d, 0, 0, n0, κ) a h0 s 0 (some (.ref a) :: []) [] (fun v s' => v = none ∧ s' = s) := by
  refine MV.aload_n dX12_expression_0 rfl ?_
  refine MV.cV0 yoX12_conjunction ml_X12_270 im_X12_conjunction se_X12_conjunction dX12_expression_1 rfl (Nat.le_of_ble_eq_true rfl) (by omega) rfl (Nat.le_of_ble_eq_true rfl) (conjunction1_M (s := s) (by omega) hf) ?_
  rintro _ _ ⟨rfl, rfl⟩
  refine MV.aload_n dX12_expression_4 rfl ?_
  refine MV.bipush (v := 11) dX12_expression_5 (by decide) ?_
  refine MV.cV1 yoX12_isWord ml_X12_273 im_X12_isWord se_X12_isWord dX12_expression_7 rfl (Nat.le_of_ble_eq_true rfl) (by omega) rfl (Nat.le_of_ble_eq_true rfl) (isWord_M (by omega)) (MV.rdK ?_)
  refine MV.eqi 0 (bI_df (fun z => hf z.1)) ?_
  refine MV.if_eq 36 dX12_expression_10 (by decide) (fun _ => ?_) (fun z => absurd (rfl) z)
  refine MV.vret dX12_expression_36 rfl ?_
  exact ⟨rfl, rfl⟩
set_option maxRecDepth 100000 in
set_option maxHeartbeats 8000000 in
theorem expression_X {κ : Kd} {n0 a : Nat} {h0 : Hp} {b : Nat → Int32} {n : Nat} {C : Cx} (hn : n ≤ 700) (hbb : ∀ k, k < n → ¬ b k = -1 ∧ b k < 256) {N : Nat} (hC : XC κ n0 a h0 b n C MX12_conjunction 14 2 [] N) : XC κ n0 a h0 b n C MX12_expression 15 1 [] N := by
  intro d s F m q L W o hmu hrel ok hF hd hm1 hm2 hW
  have hW2 : ∀ x r, W = x :: r → lvl x < 1 := fun x r hx => by have := hW x r hx; rwa [if_neg (by decide)] at this
  have hbad : ∀ s2, frQ s s2 → FT b n F m (mkS C q L W o) s2 → MV MX12_expression (d, 0, 0, n0, κ) a h0 s2 4 [some (.ref a)] [] (XP b n C F m q L W o 1 s) := by
    intro s2 hfr hno
    refine MV.aload_n dX12_expression_4 rfl ?_
    refine MV.bipush (v := 11) dX12_expression_5 (by decide) ?_
    refine MV.cV1 yoX12_isWord ml_X12_273 im_X12_isWord se_X12_isWord dX12_expression_7 rfl (Nat.le_of_ble_eq_true rfl) (by omega) rfl (Nat.le_of_ble_eq_true rfl) (isWord_M (by omega)) (MV.rdK ?_)
    refine MV.eqi 0 (bI_df (fun z => hno.ne z.1)) ?_
    refine MV.if_eq 36 dX12_expression_10 (by decide) (fun _ => ?_) (fun z => absurd (rfl) z)
    refine MV.vret dX12_expression_36 rfl ?_
    exact ⟨rfl, hfr, Or.inl hno⟩
  have hloop : ∀ (j : Nat) (q1 : Tk) (L1 L2 : St) (W2 : List Int32) (F2 : Nat) (s2 : St), mu n q1 ≤ j → frQ s s2 → PR b n C F m q L W o 1 q1 L1 L2 W2 F2 → stO 2 q1 L2 W2 → relQ b n s2 q1 L1 o → MV MX12_expression (d, 0, 0, n0, κ) a h0 s2 4 [some (.ref a)] [] (XP b n C F m q L W o 1 s) := by
    intro j
    induction j with
    | zero => intro q1 L1 L2 W2 F2 s2 hj _ _ _ _; exact absurd (mu_1 n q1) (by omega)
    | succ j ih =>
      intro q1 L1 L2 W2 F2 s2 hj hfr hp hst0 hr
      by_cases hq : q1.2.1 = 18
      · skip
        obtain ⟨k, hkk⟩ : ∃ k, k = q1.2.1 := ⟨_, rfl⟩
        have hb : isBin k = true := by rw [hkk, hq]; decide
        have hl : lvl k = 1 := by rw [hkk, hq]; decide
        have hao : isAO k = true := by rw [hkk, hq]; decide
        have hval2 : (262 : Int32) = sgV k := by rw [hkk, hq]; decide
        have h22 : MV MX12_expression (d, 0, 0, n0, κ) a h0 s2 13 [some (.ref a)] [] (XP b n C F m q L W o 1 s) := by
          by_cases hk : L1.1 0 < 64
          · skip
            obtain ⟨e1, g2, g3, g4, g5, g6⟩ := hp.sign hW2 hkk.symm hb hl (fun z => absurd z (by decide)) hk
            have hr3 := hr.knot
            have hk64 : ¬ s2.1 32 = 64 := by rw [hr.2.2.2.2.2.1]; intro z; rw [z] at hk; exact absurd hk (by decide)
            have g8 := hp.2.2.2.2.2.2.2
            have g9 := hp.2.2.2.1
            refine MV.aload_n dX12_expression_13 rfl ?_
            refine MV.cV0 yoX12_knot ml_X12_276 im_X12_knot se_X12_knot dX12_expression_14 rfl (Nat.le_of_ble_eq_true rfl) (by omega) rfl (Nat.le_of_ble_eq_true rfl) (knot0_M (by omega) hr.2.2.2.2.1 hk64) ?_
            rintro _ _ ⟨rfl, rfl⟩
            refine MV.aload_n dX12_expression_17 rfl ?_
            refine MV.cV0 yoX12_goOn ml_X12_225 im_X12_goOn se_X12_goOn dX12_expression_18 rfl (Nat.le_of_ble_eq_true rfl) (by omega) rfl (Nat.le_of_ble_eq_true rfl) (hr3.goOn (by omega) hn hbb) ?_
            rintro _ s4 ⟨rfl, hk4, hr4⟩
            have hf2 := (hfr.i (j := 32) (by decide)).k2 hk4
            refine MV.aload_n dX12_expression_21 rfl ?_
            refine MV.cV0 yoX12_conjunction ml_X12_270 im_X12_conjunction se_X12_conjunction dX12_expression_22 rfl (Nat.le_of_ble_eq_true rfl) (by omega) rfl (Nat.le_of_ble_eq_true rfl) (hC (d - 1) s4 (F2 - 1) (isAO k) (tokN b n q1) (lKnot L1) (k :: W) o (by omega) hr4 g4 g2 (by omega) (fun _ => hao) (fun z => absurd z (by decide)) (fun x r hx => by cases hx; rw [hl]; decide)) ?_
            rintro _ s5 ⟨rfl, hf5, hx5⟩
            rcases hx5 with hx5 | ⟨q3, L3, L4, W4, F4, p3, hstp3, hr5⟩
            · skip
              refine MV.aload_n dX12_expression_25 rfl ?_
              refine MV.iconst (v := 2) dX12_expression_26 (by decide) ?_
              refine MV.sipush (v := 262) dX12_expression_27 (by decide) ?_
              refine MV.cV2 yoX12_puts ml_X12_279 im_X12_puts se_X12_puts dX12_expression_30 rfl (Nat.le_of_ble_eq_true rfl) (by omega) rfl (Nat.le_of_ble_eq_true rfl) (puts1_M (s := s5) (by omega) hx5.ne) ?_
              rintro _ _ ⟨rfl, rfl⟩
              refine MV.goto 4 dX12_expression_33 (by decide) ?_
              exact MV.weak [some (.ref a)] (by simp [leL, sto1, sto2, k2c]) (hbad _ (hf2.tr hf5) (hx5.of e1))
            · skip
              have c5 := p3.2.2.2.2.1
              obtain ⟨ho3, ho4⟩ := okL_pop c5 (bin_31 hb).1
              have hf5 := hf2.tr hf5
              have hmu3 := p3.2.2.2.1
              refine MV.aload_n dX12_expression_25 rfl ?_
              refine MV.iconst (v := 2) dX12_expression_26 (by decide) ?_
              refine MV.sipush (v := 262) dX12_expression_27 (by decide) ?_
              refine MV.cV2 yoX12_puts ml_X12_279 im_X12_puts se_X12_puts dX12_expression_30 rfl (Nat.le_of_ble_eq_true rfl) (by omega) rfl (Nat.le_of_ble_eq_true rfl) (puts0_M (s := s5) (p := nat (L3.1 1)) (by omega) hr5.2.2.2.2.1 (hr5.2.2.2.2.2.2.2.1.trans c5.2.1.1) ho3) ?_
              rintro _ _ ⟨rfl, rfl⟩
              refine MV.goto 4 dX12_expression_33 (by decide) ?_
              exact MV.weak [some (.ref a)] (by simp [leL, sto1, sto2, k2c]) (ih q3 (pl L3 k 0) L4 W4 F4 _ (by omega) (hf5.p) (hp.next e1 hkk.symm hb hl hk p3 (by decide)) hstp3 (hr5.put ho3 (Or.inr (Or.inr ⟨by rw [takes_bin hb]; decide, rfl, hval2⟩))))
          · skip
            have hft : FT b n F m (mkS C q L W o) (mI (mI s2 27 2) 28 (s2.1 24)) := FT.w hr (by decide) (hp.sign_no hW2 hkk.symm hb hl (fun z => absurd z (by decide)) hk)
            refine MV.aload_n dX12_expression_13 rfl ?_
            refine MV.cV0 yoX12_knot ml_X12_276 im_X12_knot se_X12_knot dX12_expression_14 rfl (Nat.le_of_ble_eq_true rfl) (by omega) rfl (Nat.le_of_ble_eq_true rfl) (knotF_M (by omega) hr.2.2.2.2.1 (hr.2.2.2.2.2.1.trans (knot_ge hp.2.2.2.2.1.1 hk))) ?_
            rintro _ _ ⟨rfl, rfl⟩
            refine MV.aload_n dX12_expression_17 rfl ?_
            refine MV.cV0 yoX12_goOn ml_X12_225 im_X12_goOn se_X12_goOn dX12_expression_18 rfl (Nat.le_of_ble_eq_true rfl) (by omega) rfl (Nat.le_of_ble_eq_true rfl) (goOn1_M (s := mI (mI s2 27 2) 28 (s2.1 24)) (by omega) hft.ne) ?_
            rintro _ _ ⟨rfl, rfl⟩
            refine MV.aload_n dX12_expression_21 rfl ?_
            refine MV.cV0 yoX12_conjunction ml_X12_270 im_X12_conjunction se_X12_conjunction dX12_expression_22 rfl (Nat.le_of_ble_eq_true rfl) (by omega) rfl (Nat.le_of_ble_eq_true rfl) (conjunction1_M (s := mI (mI s2 27 2) 28 (s2.1 24)) (by omega) hft.ne) ?_
            rintro _ _ ⟨rfl, rfl⟩
            refine MV.aload_n dX12_expression_25 rfl ?_
            refine MV.iconst (v := 2) dX12_expression_26 (by decide) ?_
            refine MV.sipush (v := 262) dX12_expression_27 (by decide) ?_
            refine MV.cV2 yoX12_puts ml_X12_279 im_X12_puts se_X12_puts dX12_expression_30 rfl (Nat.le_of_ble_eq_true rfl) (by omega) rfl (Nat.le_of_ble_eq_true rfl) (puts1_M (s := mI (mI s2 27 2) 28 (s2.1 24)) (by omega) hft.ne) ?_
            rintro _ _ ⟨rfl, rfl⟩
            refine MV.goto 4 dX12_expression_33 (by decide) ?_
            exact MV.weak [some (.ref a)] (by simp [leL, sto1, sto2, k2c]) (hbad _ ((hfr.i (by decide)).i (by decide)) hft)
        have hq := hq
        refine MV.aload_n dX12_expression_4 rfl ?_
        refine MV.bipush (v := 11) dX12_expression_5 (by decide) ?_
        refine MV.cV1 yoX12_isWord ml_X12_273 im_X12_isWord se_X12_isWord dX12_expression_7 rfl (Nat.le_of_ble_eq_true rfl) (by omega) rfl (Nat.le_of_ble_eq_true rfl) (isWord_M (by omega)) (MV.rdK ?_)
        refine MV.eqi 1 (bI_dt ((hr.isW (j := 11) (c := 11) (k := 18) (by decide) (by decide) (by decide)).mpr hq)) ?_
        refine MV.if_eq 36 dX12_expression_10 (by decide) (fun z => absurd z (show ¬ (1 : Int32) = 0 by decide)) (fun _ => ?_)
        exact h22
      · skip
        have hx0 := hq
        have hstp : stO 1 q1 L2 W2 := fun hbn => (hst0 hbn).imp (fun z => lvl_dn1 z hbn hq) id
        refine MV.aload_n dX12_expression_4 rfl ?_
        refine MV.bipush (v := 11) dX12_expression_5 (by decide) ?_
        refine MV.cV1 yoX12_isWord ml_X12_273 im_X12_isWord se_X12_isWord dX12_expression_7 rfl (Nat.le_of_ble_eq_true rfl) (by omega) rfl (Nat.le_of_ble_eq_true rfl) (isWord_M (by omega)) (MV.rdK ?_)
        refine MV.eqi 0 (bI_df (fun z => hx0 ((hr.isW (j := 11) (c := 11) (k := 18) (by decide) (by decide) (by decide)).mp z))) ?_
        refine MV.if_eq 36 dX12_expression_10 (by decide) (fun _ => ?_) (fun z => absurd (rfl) z)
        refine MV.vret dX12_expression_36 rfl ?_
        exact ⟨rfl, hfr, Or.inr ⟨q1, L1, L2, W2, F2, hp, hstp, hr⟩⟩
  refine MV.aload_n dX12_expression_0 rfl ?_
  refine MV.cV0 yoX12_conjunction ml_X12_270 im_X12_conjunction se_X12_conjunction dX12_expression_1 rfl (Nat.le_of_ble_eq_true rfl) (by omega) rfl (Nat.le_of_ble_eq_true rfl) (hC (d - 1) s F m q L W o hmu hrel ok hF (by omega) (fun _ => hm1 (by decide)) (fun z => absurd z (by decide)) (fun x r hx => Int32.lt_trans (hW2 x r hx) (by decide))) ?_
  rintro _ s5 ⟨rfl, hf5, hx5⟩
  rcases hx5 with hx5 | ⟨q1, L1, L2, W2, F2, hp, hst, hr⟩
  · exact hbad s5 hf5 hx5
  · exact hloop (mu n q1) q1 L1 L2 W2 F2 s5 (Nat.le_refl _) hf5 (hp.down (by decide)) hst hr
/-- all levels at once -/
theorem XC_zero {κ : Kd} {n0 a : Nat} {h0 : Hp} {b : Nat → Int32} {n : Nat} {C : Cx} {Y : Yd} {c : Nat} {lv : Int32} {lx : List (Option Value)} : XC κ n0 a h0 b n C Y c lv lx 0 := fun d s F m q L W o h => absurd h (by omega)
theorem XC_all {κ : Kd} {n0 a : Nat} {h0 : Hp} {b : Nat → Int32} {n : Nat} {C : Cx} (hn : n ≤ 700) (hbb : ∀ k, k < n → ¬ b k = -1 ∧ b k < 256) : ∀ N, XC κ n0 a h0 b n C MX12_negation 13 3 [none] N ∧ XC κ n0 a h0 b n C MX12_expression 15 1 [] N := by
  intro N
  induction N with
  | zero => exact ⟨XC_zero, XC_zero⟩
  | succ N ih =>
    have h1 := primary_X (κ := κ) (n0 := n0) (a := a) (h0 := h0) (C := C) (N := N + 1) hn hbb (fun M hM => by cases hM; exact ih.2)
    have h2 := product_X hn hbb h1
    have h3 := sum_X hn hbb h2
    have h4 := negation_X hn hbb h3 (fun M hM => by cases hM; exact ih.1)
    have h5 := conjunction_X hn hbb h4
    exact ⟨h4, expression_X hn hbb h5⟩
