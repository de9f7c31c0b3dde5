/-! product, sum, conjunction, expression of the model: levels of reading -/
theorem lvl_dn6 {k : Int32} (h : lvl k < 7) (hb : isBin k = true) (h1 : ¬ k = 41) (h2 : ¬ k = 42) : lvl k < 6 := by
  unfold lvl
  rw [if_neg h1, if_neg h2]
  repeat' split
  all_goals decide
theorem lvl_dn5 {k : Int32} (h : lvl k < 6) (hb : isBin k = true) (h1 : ¬ k = 39) (h2 : ¬ k = 40) : lvl k < 5 := by
  have h41 : ¬ k = 41 := fun z => by rw [z] at h; exact absurd h (by decide)
  have h42 : ¬ k = 42 := fun z => by rw [z] at h; exact absurd h (by decide)
  unfold lvl
  rw [if_neg h1, if_neg h2, if_neg h41, if_neg h42]
  repeat' split
  all_goals decide
theorem lvl_dn2 {k : Int32} (h : lvl k < 3) (hb : isBin k = true) (h1 : ¬ k = 19) : lvl k < 2 := by
  unfold lvl at h ⊢
  rw [if_neg h1] at h ⊢
  have h20 : ¬ k = 20 := fun z => by rw [z] at hb; exact absurd hb (by decide)
  rw [if_neg h20] at h ⊢
  revert h
  repeat' split
  all_goals decide
theorem lvl_dn1 {k : Int32} (h : lvl k < 2) (hb : isBin k = true) (h1 : ¬ k = 18) : lvl k < 1 := by
  unfold lvl at h ⊢
  rw [if_neg h1] at h ⊢
  have h31 : ¬ k = 31 := (bin_31 hb).1
  rw [if_neg h31] at h
  revert h
  repeat' split
  all_goals decide
set_option maxRecDepth 100000 in
set_option maxHeartbeats 1000000 in
theorem primary1_M {d n0 a : Nat} {κ : Kd} {h0 : Hp} (hd : 1 ≤ d) {s : St} (hf : ¬ s.1 27 = 0) : MV MX12_primary (d, 0, 0, n0, κ) a h0 s 0 (some (.ref a) :: [none]) [] (fun v s' => v = none ∧ s' = s) := by
  refine MV.aload_n dX12_primary_0 rfl ?_
  refine MV.getf 27 fl_X12_202 dX12_primary_1 (by decide) rfl ?_
  refine MV.if_eq 8 dX12_primary_4 (by decide) (fun z => absurd z (hf)) (fun _ => ?_)
  refine MV.vret dX12_primary_7 rfl ?_
  exact ⟨rfl, rfl⟩
set_option maxRecDepth 100000 in
set_option maxHeartbeats 4000000 in
theorem product1_M {d n0 a : Nat} {κ : Kd} {h0 : Hp} (hd : 2 ≤ d) {s : St} (hf : ¬ s.1 27 = 0) : MV MX12_product (d, 0, 0, n0, κ) a h0 s 0 (some (.ref a) :: [none]) [] (fun v s' => v = none ∧ s' = s) := by
  refine MV.aload_n dX12_product_0 rfl ?_
  refine MV.cV0 yoX12_primary ml_X12_291 im_X12_primary se_X12_primary dX12_product_1 rfl (Nat.le_of_ble_eq_true rfl) (by omega) rfl (Nat.le_of_ble_eq_true rfl) (primary1_M (s := s) (by omega) hf) ?_
  rintro _ _ ⟨rfl, rfl⟩
  refine MV.aload_n dX12_product_4 rfl ?_
  refine MV.bipush (v := 42) dX12_product_5 (by decide) ?_
  refine MV.cV1 yoX12_isSign ml_X12_258 im_X12_isSign se_X12_isSign dX12_product_7 rfl (Nat.le_of_ble_eq_true rfl) (by omega) rfl (Nat.le_of_ble_eq_true rfl) (isSign_M (by omega)) (MV.rdK ?_)
  refine MV.eqi 0 (bI_df (fun z => hf z.1)) ?_
  refine MV.if_ne 22 dX12_product_10 (by decide) (fun z => absurd (rfl) z) (fun _ => ?_)
  refine MV.aload_n dX12_product_13 rfl ?_
  refine MV.bipush (v := 47) dX12_product_14 (by decide) ?_
  refine MV.cV1 yoX12_isSign ml_X12_258 im_X12_isSign se_X12_isSign dX12_product_16 rfl (Nat.le_of_ble_eq_true rfl) (by omega) rfl (Nat.le_of_ble_eq_true rfl) (isSign_M (by omega)) (MV.rdK ?_)
  refine MV.eqi 0 (bI_df (fun z => hf z.1)) ?_
  refine MV.if_eq 48 dX12_product_19 (by decide) (fun _ => ?_) (fun z => absurd (rfl) z)
  refine MV.vret dX12_product_48 rfl ?_
  exact ⟨rfl, rfl⟩
set_option maxRecDepth 100000 in
set_option maxHeartbeats 8000000 in
theorem product_X {κ : Kd} {n0 a : Nat} {h0 : Hp} {b : Nat → Int32} {n : Nat} {C : Cx} (hn : n ≤ 700) (hbb : ∀ k, k < n → ¬ b k = -1 ∧ b k < 256) {N : Nat} (hC : XC κ n0 a h0 b n C MX12_primary 10 7 [none] N) : XC κ n0 a h0 b n C MX12_product 11 6 [none] N := by
  intro d s F m q L W o hmu hrel ok hF hd hm1 hm2 hW
  have hW2 : ∀ x r, W = x :: r → lvl x < 6 := fun x r hx => by have := hW x r hx; rwa [if_neg (by decide)] at this
  have hbad : ∀ s2, frQ s s2 → FT b n F m (mkS C q L W o) s2 → MV MX12_product (d, 0, 0, n0, κ) a h0 s2 4 [some (.ref a), none] [] (XP b n C F m q L W o 6 s) := by
    intro s2 hfr hno
    refine MV.aload_n dX12_product_4 rfl ?_
    refine MV.bipush (v := 42) dX12_product_5 (by decide) ?_
    refine MV.cV1 yoX12_isSign ml_X12_258 im_X12_isSign se_X12_isSign dX12_product_7 rfl (Nat.le_of_ble_eq_true rfl) (by omega) rfl (Nat.le_of_ble_eq_true rfl) (isSign_M (by omega)) (MV.rdK ?_)
    refine MV.eqi 0 (bI_df (fun z => hno.ne z.1)) ?_
    refine MV.if_ne 22 dX12_product_10 (by decide) (fun z => absurd (rfl) z) (fun _ => ?_)
    refine MV.aload_n dX12_product_13 rfl ?_
    refine MV.bipush (v := 47) dX12_product_14 (by decide) ?_
    refine MV.cV1 yoX12_isSign ml_X12_258 im_X12_isSign se_X12_isSign dX12_product_16 rfl (Nat.le_of_ble_eq_true rfl) (by omega) rfl (Nat.le_of_ble_eq_true rfl) (isSign_M (by omega)) (MV.rdK ?_)
    refine MV.eqi 0 (bI_df (fun z => hno.ne z.1)) ?_
    refine MV.if_eq 48 dX12_product_19 (by decide) (fun _ => ?_) (fun z => absurd (rfl) z)
    refine MV.vret dX12_product_48 rfl ?_
    exact ⟨rfl, hfr, Or.inl hno⟩
  have hloop : ∀ (j : Nat) (q1 : Tk) (L1 L2 : St) (W2 : List Int32) (F2 : Nat) (s2 : St), mu n q1 ≤ j → frQ s s2 → PR b n C F m q L W o 6 q1 L1 L2 W2 F2 → stO 7 q1 L2 W2 → relQ b n s2 q1 L1 o → MV MX12_product (d, 0, 0, n0, κ) a h0 s2 4 [some (.ref a), none] [] (XP b n C F m q L W o 6 s) := by
    intro j
    induction j with
    | zero => intro q1 L1 L2 W2 F2 s2 hj _ _ _ _; exact absurd (mu_1 n q1) (by omega)
    | succ j ih =>
      intro q1 L1 L2 W2 F2 s2 hj hfr hp hst0 hr
      by_cases hq : q1.2.1 = 41 ∨ q1.2.1 = 42
      · skip
        obtain ⟨k, hkk⟩ : ∃ k, k = q1.2.1 := ⟨_, rfl⟩
        have hb : isBin k = true := by rw [hkk]; rcases hq with h | h <;> rw [h] <;> decide
        have hl : lvl k = 6 := by rw [hkk]; rcases hq with h | h <;> rw [h] <;> decide
        have hao : isAO k = false := by rw [hkk]; rcases hq with h | h <;> rw [h] <;> decide
        have hval : s2.1 26 = sgV k := by
          rw [hkk]
          rcases hq with h | h
          · rw [((hr.isS (j := 11) (c := 42) (k := 41) (by decide) (by decide) (by decide)).mpr h).2.2, h]; decide
          · rw [((hr.isS (j := 12) (c := 47) (k := 42) (by decide) (by decide) (by decide)).mpr h).2.2, h]; decide
        have h22 : MV MX12_product (d, 0, 0, n0, κ) a h0 s2 22 [some (.ref a), none] [] (XP b n C F m q L W o 6 s) := by
          by_cases hk : L1.1 0 < 64
          · skip
            obtain ⟨e1, g2, g3, g4, g5, g6⟩ := hp.sign hW2 hkk.symm hb hl (fun z => absurd z (by decide)) hk
            have hr3 := hr.knot
            have hk64 : ¬ s2.1 32 = 64 := by rw [hr.2.2.2.2.2.1]; intro z; rw [z] at hk; exact absurd hk (by decide)
            have g8 := hp.2.2.2.2.2.2.2
            have g9 := hp.2.2.2.1
            refine MV.aload_n dX12_product_22 rfl ?_
            refine MV.getf (v := .int (sgV k)) 26 fl_X12_177 dX12_product_23 (by decide) (congrArg (fun z => some (Value.int z)) hval) ?_
            refine MV.istore_n dX12_product_26 (by decide) rfl ?_
            refine MV.aload_n dX12_product_27 rfl ?_
            refine MV.cV0 yoX12_knot ml_X12_276 im_X12_knot se_X12_knot dX12_product_28 rfl (Nat.le_of_ble_eq_true rfl) (by omega) rfl (Nat.le_of_ble_eq_true rfl) (knot0_M (by omega) hr.2.2.2.2.1 hk64) ?_
            rintro _ _ ⟨rfl, rfl⟩
            refine MV.aload_n dX12_product_31 rfl ?_
            refine MV.cV0 yoX12_goOn ml_X12_225 im_X12_goOn se_X12_goOn dX12_product_32 rfl (Nat.le_of_ble_eq_true rfl) (by omega) rfl (Nat.le_of_ble_eq_true rfl) (hr3.goOn (by omega) hn hbb) ?_
            rintro _ s4 ⟨rfl, hk4, hr4⟩
            have hf2 := (hfr.i (j := 32) (by decide)).k2 hk4
            refine MV.aload_n dX12_product_35 rfl ?_
            refine MV.cV0 yoX12_primary ml_X12_291 im_X12_primary se_X12_primary dX12_product_36 rfl (Nat.le_of_ble_eq_true rfl) (by omega) rfl (Nat.le_of_ble_eq_true rfl) (hC (d - 1) s4 (F2 - 1) (isAO k) (tokN b n q1) (lKnot L1) (k :: W) o (by omega) hr4 g4 g2 (by omega) (fun z => absurd z (by decide)) (fun _ z => absurd z (by rw [hao]; decide)) (fun x r hx => by cases hx; rw [hl]; decide)) ?_
            rintro _ s5 ⟨rfl, hf5, hx5⟩
            rcases hx5 with hx5 | ⟨q3, L3, L4, W4, F4, p3, hstp3, hr5⟩
            · skip
              refine MV.aload_n dX12_product_39 rfl ?_
              refine MV.iconst (v := 2) dX12_product_40 (by decide) ?_
              refine MV.iload_n dX12_product_41 rfl ?_
              refine MV.cV2 yoX12_puts ml_X12_279 im_X12_puts se_X12_puts dX12_product_42 rfl (Nat.le_of_ble_eq_true rfl) (by omega) rfl (Nat.le_of_ble_eq_true rfl) (puts1_M (s := s5) (by omega) hx5.ne) ?_
              rintro _ _ ⟨rfl, rfl⟩
              refine MV.goto 4 dX12_product_45 (by decide) ?_
              exact MV.weak [some (.ref a), none] (by simp [leL, sto1, sto2, k2c]) (hbad _ (hf2.tr hf5) (hx5.of e1))
            · skip
              have c5 := p3.2.2.2.2.1
              obtain ⟨ho3, ho4⟩ := okL_pop c5 (bin_31 hb).1
              have hf5 := hf2.tr hf5
              have hmu3 := p3.2.2.2.1
              refine MV.aload_n dX12_product_39 rfl ?_
              refine MV.iconst (v := 2) dX12_product_40 (by decide) ?_
              refine MV.iload_n dX12_product_41 rfl ?_
              refine MV.cV2 yoX12_puts ml_X12_279 im_X12_puts se_X12_puts dX12_product_42 rfl (Nat.le_of_ble_eq_true rfl) (by omega) rfl (Nat.le_of_ble_eq_true rfl) (puts0_M (s := s5) (p := nat (L3.1 1)) (by omega) hr5.2.2.2.2.1 (hr5.2.2.2.2.2.2.2.1.trans c5.2.1.1) ho3) ?_
              rintro _ _ ⟨rfl, rfl⟩
              refine MV.goto 4 dX12_product_45 (by decide) ?_
              exact MV.weak [some (.ref a), none] (by simp [leL, sto1, sto2, k2c]) (ih q3 (pl L3 k 0) L4 W4 F4 _ (by omega) (hf5.p) (hp.next e1 hkk.symm hb hl hk p3 (by decide)) hstp3 (hr5.put ho3 (Or.inr (Or.inr ⟨by rw [takes_bin hb]; decide, rfl, rfl⟩))))
          · skip
            have hft : FT b n F m (mkS C q L W o) (mI (mI s2 27 2) 28 (s2.1 24)) := FT.w hr (by decide) (hp.sign_no hW2 hkk.symm hb hl (fun z => absurd z (by decide)) hk)
            refine MV.aload_n dX12_product_22 rfl ?_
            refine MV.getf (v := .int (sgV k)) 26 fl_X12_177 dX12_product_23 (by decide) (congrArg (fun z => some (Value.int z)) hval) ?_
            refine MV.istore_n dX12_product_26 (by decide) rfl ?_
            refine MV.aload_n dX12_product_27 rfl ?_
            refine MV.cV0 yoX12_knot ml_X12_276 im_X12_knot se_X12_knot dX12_product_28 rfl (Nat.le_of_ble_eq_true rfl) (by omega) rfl (Nat.le_of_ble_eq_true rfl) (knotF_M (by omega) hr.2.2.2.2.1 (hr.2.2.2.2.2.1.trans (knot_ge hp.2.2.2.2.1.1 hk))) ?_
            rintro _ _ ⟨rfl, rfl⟩
            refine MV.aload_n dX12_product_31 rfl ?_
            refine MV.cV0 yoX12_goOn ml_X12_225 im_X12_goOn se_X12_goOn dX12_product_32 rfl (Nat.le_of_ble_eq_true rfl) (by omega) rfl (Nat.le_of_ble_eq_true rfl) (goOn1_M (s := mI (mI s2 27 2) 28 (s2.1 24)) (by omega) hft.ne) ?_
            rintro _ _ ⟨rfl, rfl⟩
            refine MV.aload_n dX12_product_35 rfl ?_
            refine MV.cV0 yoX12_primary ml_X12_291 im_X12_primary se_X12_primary dX12_product_36 rfl (Nat.le_of_ble_eq_true rfl) (by omega) rfl (Nat.le_of_ble_eq_true rfl) (primary1_M (s := mI (mI s2 27 2) 28 (s2.1 24)) (by omega) hft.ne) ?_
            rintro _ _ ⟨rfl, rfl⟩
            refine MV.aload_n dX12_product_39 rfl ?_
            refine MV.iconst (v := 2) dX12_product_40 (by decide) ?_
            refine MV.iload_n dX12_product_41 rfl ?_
            refine MV.cV2 yoX12_puts ml_X12_279 im_X12_puts se_X12_puts dX12_product_42 rfl (Nat.le_of_ble_eq_true rfl) (by omega) rfl (Nat.le_of_ble_eq_true rfl) (puts1_M (s := mI (mI s2 27 2) 28 (s2.1 24)) (by omega) hft.ne) ?_
            rintro _ _ ⟨rfl, rfl⟩
            refine MV.goto 4 dX12_product_45 (by decide) ?_
            exact MV.weak [some (.ref a), none] (by simp [leL, sto1, sto2, k2c]) (hbad _ ((hfr.i (by decide)).i (by decide)) hft)
        rcases hq with hq | hq
        · skip
          refine MV.aload_n dX12_product_4 rfl ?_
          refine MV.bipush (v := 42) dX12_product_5 (by decide) ?_
          refine MV.cV1 yoX12_isSign ml_X12_258 im_X12_isSign se_X12_isSign dX12_product_7 rfl (Nat.le_of_ble_eq_true rfl) (by omega) rfl (Nat.le_of_ble_eq_true rfl) (isSign_M (by omega)) (MV.rdK ?_)
          refine MV.eqi 1 (bI_dt ((hr.isS (j := 11) (c := 42) (k := 41) (by decide) (by decide) (by decide)).mpr hq)) ?_
          refine MV.if_ne 22 dX12_product_10 (by decide) (fun _ => ?_) (fun z => absurd z (show ¬ (1 : Int32) = 0 by decide))
          exact h22
        · skip
          have hq1 : ¬ q1.2.1 = 41 := by rw [hq]; decide
          refine MV.aload_n dX12_product_4 rfl ?_
          refine MV.bipush (v := 42) dX12_product_5 (by decide) ?_
          refine MV.cV1 yoX12_isSign ml_X12_258 im_X12_isSign se_X12_isSign dX12_product_7 rfl (Nat.le_of_ble_eq_true rfl) (by omega) rfl (Nat.le_of_ble_eq_true rfl) (isSign_M (by omega)) (MV.rdK ?_)
          refine MV.eqi 0 (bI_df (fun z => hq1 ((hr.isS (j := 11) (c := 42) (k := 41) (by decide) (by decide) (by decide)).mp z))) ?_
          refine MV.if_ne 22 dX12_product_10 (by decide) (fun z => absurd (rfl) z) (fun _ => ?_)
          refine MV.aload_n dX12_product_13 rfl ?_
          refine MV.bipush (v := 47) dX12_product_14 (by decide) ?_
          refine MV.cV1 yoX12_isSign ml_X12_258 im_X12_isSign se_X12_isSign dX12_product_16 rfl (Nat.le_of_ble_eq_true rfl) (by omega) rfl (Nat.le_of_ble_eq_true rfl) (isSign_M (by omega)) (MV.rdK ?_)
          refine MV.eqi 1 (bI_dt ((hr.isS (j := 12) (c := 47) (k := 42) (by decide) (by decide) (by decide)).mpr hq)) ?_
          refine MV.if_eq 48 dX12_product_19 (by decide) (fun z => absurd z (show ¬ (1 : Int32) = 0 by decide)) (fun _ => ?_)
          exact h22
      · skip
        have hx0 : ¬ q1.2.1 = 41 := fun z => hq (Or.inl z)
        have hx1 : ¬ q1.2.1 = 42 := fun z => hq (Or.inr z)
        have hstp : stO 6 q1 L2 W2 := fun hbn => (hst0 hbn).imp (fun z => lvl_dn6 z hbn hx0 hx1) id
        refine MV.aload_n dX12_product_4 rfl ?_
        refine MV.bipush (v := 42) dX12_product_5 (by decide) ?_
        refine MV.cV1 yoX12_isSign ml_X12_258 im_X12_isSign se_X12_isSign dX12_product_7 rfl (Nat.le_of_ble_eq_true rfl) (by omega) rfl (Nat.le_of_ble_eq_true rfl) (isSign_M (by omega)) (MV.rdK ?_)
        refine MV.eqi 0 (bI_df (fun z => hx0 ((hr.isS (j := 11) (c := 42) (k := 41) (by decide) (by decide) (by decide)).mp z))) ?_
        refine MV.if_ne 22 dX12_product_10 (by decide) (fun z => absurd (rfl) z) (fun _ => ?_)
        refine MV.aload_n dX12_product_13 rfl ?_
        refine MV.bipush (v := 47) dX12_product_14 (by decide) ?_
        refine MV.cV1 yoX12_isSign ml_X12_258 im_X12_isSign se_X12_isSign dX12_product_16 rfl (Nat.le_of_ble_eq_true rfl) (by omega) rfl (Nat.le_of_ble_eq_true rfl) (isSign_M (by omega)) (MV.rdK ?_)
        refine MV.eqi 0 (bI_df (fun z => hx1 ((hr.isS (j := 12) (c := 47) (k := 42) (by decide) (by decide) (by decide)).mp z))) ?_
        refine MV.if_eq 48 dX12_product_19 (by decide) (fun _ => ?_) (fun z => absurd (rfl) z)
        refine MV.vret dX12_product_48 rfl ?_
        exact ⟨rfl, hfr, Or.inr ⟨q1, L1, L2, W2, F2, hp, hstp, hr⟩⟩
  refine MV.aload_n dX12_product_0 rfl ?_
  refine MV.cV0 yoX12_primary ml_X12_291 im_X12_primary se_X12_primary dX12_product_1 rfl (Nat.le_of_ble_eq_true rfl) (by omega) rfl (Nat.le_of_ble_eq_true rfl) (hC (d - 1) s F m q L W o hmu hrel ok hF (by omega) (fun z => absurd z (by decide)) (fun _ => hm2 (by decide)) (fun x r hx => Int32.lt_trans (hW2 x r hx) (by decide))) ?_
  rintro _ s5 ⟨rfl, hf5, hx5⟩
  rcases hx5 with hx5 | ⟨q1, L1, L2, W2, F2, hp, hst, hr⟩
  · exact hbad s5 hf5 hx5
  · exact hloop (mu n q1) q1 L1 L2 W2 F2 s5 (Nat.le_refl _) hf5 (hp.down (by decide)) hst hr
set_option maxRecDepth 100000 in
set_option maxHeartbeats 4000000 in
theorem sum1_M {d n0 a : Nat} {κ : Kd} {h0 : Hp} (hd : 3 ≤ d) {s : St} (hf : ¬ s.1 27 = 0) : MV MX12_sum (d, 0, 0, n0, κ) a h0 s 0 (some (.ref a) :: [none]) [] (fun v s' => v = none ∧ s' = s) := by
  refine MV.aload_n dX12_sum_0 rfl ?_
  refine MV.cV0 yoX12_product ml_X12_288 im_X12_product se_X12_product dX12_sum_1 rfl (Nat.le_of_ble_eq_true rfl) (by omega) rfl (Nat.le_of_ble_eq_true rfl) (product1_M (s := s) (by omega) hf) ?_
  rintro _ _ ⟨rfl, rfl⟩
  refine MV.aload_n dX12_sum_4 rfl ?_
  refine MV.bipush (v := 43) dX12_sum_5 (by decide) ?_
  refine MV.cV1 yoX12_isSign ml_X12_258 im_X12_isSign se_X12_isSign dX12_sum_7 rfl (Nat.le_of_ble_eq_true rfl) (by omega) rfl (Nat.le_of_ble_eq_true rfl) (isSign_M (by omega)) (MV.rdK ?_)
  refine MV.eqi 0 (bI_df (fun z => hf z.1)) ?_
  refine MV.if_ne 22 dX12_sum_10 (by decide) (fun z => absurd (rfl) z) (fun _ => ?_)
  refine MV.aload_n dX12_sum_13 rfl ?_
  refine MV.bipush (v := 45) dX12_sum_14 (by decide) ?_
  refine MV.cV1 yoX12_isSign ml_X12_258 im_X12_isSign se_X12_isSign dX12_sum_16 rfl (Nat.le_of_ble_eq_true rfl) (by omega) rfl (Nat.le_of_ble_eq_true rfl) (isSign_M (by omega)) (MV.rdK ?_)
  refine MV.eqi 0 (bI_df (fun z => hf z.1)) ?_
  refine MV.if_eq 48 dX12_sum_19 (by decide) (fun _ => ?_) (fun z => absurd (rfl) z)
  refine MV.vret dX12_sum_48 rfl ?_
  exact ⟨rfl, rfl⟩
set_option maxRecDepth 100000 in
set_option maxHeartbeats 8000000 in
theorem sum_X {κ : Kd} {n0 a : Nat} {h0 : Hp} {b : Nat → Int32} {n : Nat} {C : Cx} (hn : n ≤ 700) (hbb : ∀ k, k < n → ¬ b k = -1 ∧ b k < 256) {N : Nat} (hC : XC κ n0 a h0 b n C MX12_product 11 6 [none] N) : XC κ n0 a h0 b n C MX12_sum 12 5 [none] N := by
  intro d s F m q L W o hmu hrel ok hF hd hm1 hm2 hW
  have hW2 : ∀ x r, W = x :: r → lvl x < 5 := fun x r hx => by have := hW x r hx; rwa [if_neg (by decide)] at this
  have hbad : ∀ s2, frQ s s2 → FT b n F m (mkS C q L W o) s2 → MV MX12_sum (d, 0, 0, n0, κ) a h0 s2 4 [some (.ref a), none] [] (XP b n C F m q L W o 5 s) := by
    intro s2 hfr hno
    refine MV.aload_n dX12_sum_4 rfl ?_
    refine MV.bipush (v := 43) dX12_sum_5 (by decide) ?_
    refine MV.cV1 yoX12_isSign ml_X12_258 im_X12_isSign se_X12_isSign dX12_sum_7 rfl (Nat.le_of_ble_eq_true rfl) (by omega) rfl (Nat.le_of_ble_eq_true rfl) (isSign_M (by omega)) (MV.rdK ?_)
    refine MV.eqi 0 (bI_df (fun z => hno.ne z.1)) ?_
    refine MV.if_ne 22 dX12_sum_10 (by decide) (fun z => absurd (rfl) z) (fun _ => ?_)
    refine MV.aload_n dX12_sum_13 rfl ?_
    refine MV.bipush (v := 45) dX12_sum_14 (by decide) ?_
    refine MV.cV1 yoX12_isSign ml_X12_258 im_X12_isSign se_X12_isSign dX12_sum_16 rfl (Nat.le_of_ble_eq_true rfl) (by omega) rfl (Nat.le_of_ble_eq_true rfl) (isSign_M (by omega)) (MV.rdK ?_)
    refine MV.eqi 0 (bI_df (fun z => hno.ne z.1)) ?_
    refine MV.if_eq 48 dX12_sum_19 (by decide) (fun _ => ?_) (fun z => absurd (rfl) z)
    refine MV.vret dX12_sum_48 rfl ?_
    exact ⟨rfl, hfr, Or.inl hno⟩
  have hloop : ∀ (j : Nat) (q1 : Tk) (L1 L2 : St) (W2 : List Int32) (F2 : Nat) (s2 : St), mu n q1 ≤ j → frQ s s2 → PR b n C F m q L W o 5 q1 L1 L2 W2 F2 → stO 6 q1 L2 W2 → relQ b n s2 q1 L1 o → MV MX12_sum (d, 0, 0, n0, κ) a h0 s2 4 [some (.ref a), none] [] (XP b n C F m q L W o 5 s) := by
    intro j
    induction j with
    | zero => intro q1 L1 L2 W2 F2 s2 hj _ _ _ _; exact absurd (mu_1 n q1) (by omega)
    | succ j ih =>
      intro q1 L1 L2 W2 F2 s2 hj hfr hp hst0 hr
      by_cases hq : q1.2.1 = 39 ∨ q1.2.1 = 40
      · skip
        obtain ⟨k, hkk⟩ : ∃ k, k = q1.2.1 := ⟨_, rfl⟩
        have hb : isBin k = true := by rw [hkk]; rcases hq with h | h <;> rw [h] <;> decide
        have hl : lvl k = 5 := by rw [hkk]; rcases hq with h | h <;> rw [h] <;> decide
        have hao : isAO k = false := by rw [hkk]; rcases hq with h | h <;> rw [h] <;> decide
        have hval : s2.1 26 = sgV k := by
          rw [hkk]
          rcases hq with h | h
          · rw [((hr.isS (j := 9) (c := 43) (k := 39) (by decide) (by decide) (by decide)).mpr h).2.2, h]; decide
          · rw [((hr.isS (j := 10) (c := 45) (k := 40) (by decide) (by decide) (by decide)).mpr h).2.2, h]; decide
        have h22 : MV MX12_sum (d, 0, 0, n0, κ) a h0 s2 22 [some (.ref a), none] [] (XP b n C F m q L W o 5 s) := by
          by_cases hk : L1.1 0 < 64
          · skip
            obtain ⟨e1, g2, g3, g4, g5, g6⟩ := hp.sign hW2 hkk.symm hb hl (fun z => absurd z (by decide)) hk
            have hr3 := hr.knot
            have hk64 : ¬ s2.1 32 = 64 := by rw [hr.2.2.2.2.2.1]; intro z; rw [z] at hk; exact absurd hk (by decide)
            have g8 := hp.2.2.2.2.2.2.2
            have g9 := hp.2.2.2.1
            refine MV.aload_n dX12_sum_22 rfl ?_
            refine MV.getf (v := .int (sgV k)) 26 fl_X12_177 dX12_sum_23 (by decide) (congrArg (fun z => some (Value.int z)) hval) ?_
            refine MV.istore_n dX12_sum_26 (by decide) rfl ?_
            refine MV.aload_n dX12_sum_27 rfl ?_
            refine MV.cV0 yoX12_knot ml_X12_276 im_X12_knot se_X12_knot dX12_sum_28 rfl (Nat.le_of_ble_eq_true rfl) (by omega) rfl (Nat.le_of_ble_eq_true rfl) (knot0_M (by omega) hr.2.2.2.2.1 hk64) ?_
            rintro _ _ ⟨rfl, rfl⟩
            refine MV.aload_n dX12_sum_31 rfl ?_
            refine MV.cV0 yoX12_goOn ml_X12_225 im_X12_goOn se_X12_goOn dX12_sum_32 rfl (Nat.le_of_ble_eq_true rfl) (by omega) rfl (Nat.le_of_ble_eq_true rfl) (hr3.goOn (by omega) hn hbb) ?_
            rintro _ s4 ⟨rfl, hk4, hr4⟩
            have hf2 := (hfr.i (j := 32) (by decide)).k2 hk4
            refine MV.aload_n dX12_sum_35 rfl ?_
            refine MV.cV0 yoX12_product ml_X12_288 im_X12_product se_X12_product dX12_sum_36 rfl (Nat.le_of_ble_eq_true rfl) (by omega) rfl (Nat.le_of_ble_eq_true rfl) (hC (d - 1) s4 (F2 - 1) (isAO k) (tokN b n q1) (lKnot L1) (k :: W) o (by omega) hr4 g4 g2 (by omega) (fun z => absurd z (by decide)) (fun _ z => absurd z (by rw [hao]; decide)) (fun x r hx => by cases hx; rw [hl]; decide)) ?_
            rintro _ s5 ⟨rfl, hf5, hx5⟩
            rcases hx5 with hx5 | ⟨q3, L3, L4, W4, F4, p3, hstp3, hr5⟩
            · skip
              refine MV.aload_n dX12_sum_39 rfl ?_
              refine MV.iconst (v := 2) dX12_sum_40 (by decide) ?_
              refine MV.iload_n dX12_sum_41 rfl ?_
              refine MV.cV2 yoX12_puts ml_X12_279 im_X12_puts se_X12_puts dX12_sum_42 rfl (Nat.le_of_ble_eq_true rfl) (by omega) rfl (Nat.le_of_ble_eq_true rfl) (puts1_M (s := s5) (by omega) hx5.ne) ?_
              rintro _ _ ⟨rfl, rfl⟩
              refine MV.goto 4 dX12_sum_45 (by decide) ?_
              exact MV.weak [some (.ref a), none] (by simp [leL, sto1, sto2, k2c]) (hbad _ (hf2.tr hf5) (hx5.of e1))
            · skip
              have c5 := p3.2.2.2.2.1
              obtain ⟨ho3, ho4⟩ := okL_pop c5 (bin_31 hb).1
              have hf5 := hf2.tr hf5
              have hmu3 := p3.2.2.2.1
              refine MV.aload_n dX12_sum_39 rfl ?_
              refine MV.iconst (v := 2) dX12_sum_40 (by decide) ?_
              refine MV.iload_n dX12_sum_41 rfl ?_
              refine MV.cV2 yoX12_puts ml_X12_279 im_X12_puts se_X12_puts dX12_sum_42 rfl (Nat.le_of_ble_eq_true rfl) (by omega) rfl (Nat.le_of_ble_eq_true rfl) (puts0_M (s := s5) (p := nat (L3.1 1)) (by omega) hr5.2.2.2.2.1 (hr5.2.2.2.2.2.2.2.1.trans c5.2.1.1) ho3) ?_
              rintro _ _ ⟨rfl, rfl⟩
              refine MV.goto 4 dX12_sum_45 (by decide) ?_
              exact MV.weak [some (.ref a), none] (by simp [leL, sto1, sto2, k2c]) (ih q3 (pl L3 k 0) L4 W4 F4 _ (by omega) (hf5.p) (hp.next e1 hkk.symm hb hl hk p3 (by decide)) hstp3 (hr5.put ho3 (Or.inr (Or.inr ⟨by rw [takes_bin hb]; decide, rfl, rfl⟩))))
          · skip
            have hft : FT b n F m (mkS C q L W o) (mI (mI s2 27 2) 28 (s2.1 24)) := FT.w hr (by decide) (hp.sign_no hW2 hkk.symm hb hl (fun z => absurd z (by decide)) hk)
            refine MV.aload_n dX12_sum_22 rfl ?_
            refine MV.getf (v := .int (sgV k)) 26 fl_X12_177 dX12_sum_23 (by decide) (congrArg (fun z => some (Value.int z)) hval) ?_
            refine MV.istore_n dX12_sum_26 (by decide) rfl ?_
            refine MV.aload_n dX12_sum_27 rfl ?_
            refine MV.cV0 yoX12_knot ml_X12_276 im_X12_knot se_X12_knot dX12_sum_28 rfl (Nat.le_of_ble_eq_true rfl) (by omega) rfl (Nat.le_of_ble_eq_true rfl) (knotF_M (by omega) hr.2.2.2.2.1 (hr.2.2.2.2.2.1.trans (knot_ge hp.2.2.2.2.1.1 hk))) ?_
            rintro _ _ ⟨rfl, rfl⟩
            refine MV.aload_n dX12_sum_31 rfl ?_
            refine MV.cV0 yoX12_goOn ml_X12_225 im_X12_goOn se_X12_goOn dX12_sum_32 rfl (Nat.le_of_ble_eq_true rfl) (by omega) rfl (Nat.le_of_ble_eq_true rfl) (goOn1_M (s := mI (mI s2 27 2) 28 (s2.1 24)) (by omega) hft.ne) ?_
            rintro _ _ ⟨rfl, rfl⟩
            refine MV.aload_n dX12_sum_35 rfl ?_
            refine MV.cV0 yoX12_product ml_X12_288 im_X12_product se_X12_product dX12_sum_36 rfl (Nat.le_of_ble_eq_true rfl) (by omega) rfl (Nat.le_of_ble_eq_true rfl) (product1_M (s := mI (mI s2 27 2) 28 (s2.1 24)) (by omega) hft.ne) ?_
            rintro _ _ ⟨rfl, rfl⟩
            refine MV.aload_n dX12_sum_39 rfl ?_
            refine MV.iconst (v := 2) dX12_sum_40 (by decide) ?_
            refine MV.iload_n dX12_sum_41 rfl ?_
            refine MV.cV2 yoX12_puts ml_X12_279 im_X12_puts se_X12_puts dX12_sum_42 rfl (Nat.le_of_ble_eq_true rfl) (by omega) rfl (Nat.le_of_ble_eq_true rfl) (puts1_M (s := mI (mI s2 27 2) 28 (s2.1 24)) (by omega) hft.ne) ?_
            rintro _ _ ⟨rfl, rfl⟩
            refine MV.goto 4 dX12_sum_45 (by decide) ?_
            exact MV.weak [some (.ref a), none] (by simp [leL, sto1, sto2, k2c]) (hbad _ ((hfr.i (by decide)).i (by decide)) hft)
        rcases hq with hq | hq
        · skip
          refine MV.aload_n dX12_sum_4 rfl ?_
          refine MV.bipush (v := 43) dX12_sum_5 (by decide) ?_
          refine MV.cV1 yoX12_isSign ml_X12_258 im_X12_isSign se_X12_isSign dX12_sum_7 rfl (Nat.le_of_ble_eq_true rfl) (by omega) rfl (Nat.le_of_ble_eq_true rfl) (isSign_M (by omega)) (MV.rdK ?_)
          refine MV.eqi 1 (bI_dt ((hr.isS (j := 9) (c := 43) (k := 39) (by decide) (by decide) (by decide)).mpr hq)) ?_
          refine MV.if_ne 22 dX12_sum_10 (by decide) (fun _ => ?_) (fun z => absurd z (show ¬ (1 : Int32) = 0 by decide))
          exact h22
        · skip
          have hq1 : ¬ q1.2.1 = 39 := by rw [hq]; decide
          refine MV.aload_n dX12_sum_4 rfl ?_
          refine MV.bipush (v := 43) dX12_sum_5 (by decide) ?_
          refine MV.cV1 yoX12_isSign ml_X12_258 im_X12_isSign se_X12_isSign dX12_sum_7 rfl (Nat.le_of_ble_eq_true rfl) (by omega) rfl (Nat.le_of_ble_eq_true rfl) (isSign_M (by omega)) (MV.rdK ?_)
          refine MV.eqi 0 (bI_df (fun z => hq1 ((hr.isS (j := 9) (c := 43) (k := 39) (by decide) (by decide) (by decide)).mp z))) ?_
          refine MV.if_ne 22 dX12_sum_10 (by decide) (fun z => absurd (rfl) z) (fun _ => ?_)
          refine MV.aload_n dX12_sum_13 rfl ?_
          refine MV.bipush (v := 45) dX12_sum_14 (by decide) ?_
          refine MV.cV1 yoX12_isSign ml_X12_258 im_X12_isSign se_X12_isSign dX12_sum_16 rfl (Nat.le_of_ble_eq_true rfl) (by omega) rfl (Nat.le_of_ble_eq_true rfl) (isSign_M (by omega)) (MV.rdK ?_)
          refine MV.eqi 1 (bI_dt ((hr.isS (j := 10) (c := 45) (k := 40) (by decide) (by decide) (by decide)).mpr hq)) ?_
          refine MV.if_eq 48 dX12_sum_19 (by decide) (fun z => absurd z (show ¬ (1 : Int32) = 0 by decide)) (fun _ => ?_)
          exact h22
      · skip
        have hx0 : ¬ q1.2.1 = 39 := fun z => hq (Or.inl z)
        have hx1 : ¬ q1.2.1 = 40 := fun z => hq (Or.inr z)
        have hstp : stO 5 q1 L2 W2 := fun hbn => (hst0 hbn).imp (fun z => lvl_dn5 z hbn hx0 hx1) id
        refine MV.aload_n dX12_sum_4 rfl ?_
        refine MV.bipush (v := 43) dX12_sum_5 (by decide) ?_
        refine MV.cV1 yoX12_isSign ml_X12_258 im_X12_isSign se_X12_isSign dX12_sum_7 rfl (Nat.le_of_ble_eq_true rfl) (by omega) rfl (Nat.le_of_ble_eq_true rfl) (isSign_M (by omega)) (MV.rdK ?_)
        refine MV.eqi 0 (bI_df (fun z => hx0 ((hr.isS (j := 9) (c := 43) (k := 39) (by decide) (by decide) (by decide)).mp z))) ?_
        refine MV.if_ne 22 dX12_sum_10 (by decide) (fun z => absurd (rfl) z) (fun _ => ?_)
        refine MV.aload_n dX12_sum_13 rfl ?_
        refine MV.bipush (v := 45) dX12_sum_14 (by decide) ?_
        refine MV.cV1 yoX12_isSign ml_X12_258 im_X12_isSign se_X12_isSign dX12_sum_16 rfl (Nat.le_of_ble_eq_true rfl) (by omega) rfl (Nat.le_of_ble_eq_true rfl) (isSign_M (by omega)) (MV.rdK ?_)
        refine MV.eqi 0 (bI_df (fun z => hx1 ((hr.isS (j := 10) (c := 45) (k := 40) (by decide) (by decide) (by decide)).mp z))) ?_
        refine MV.if_eq 48 dX12_sum_19 (by decide) (fun _ => ?_) (fun z => absurd (rfl) z)
        refine MV.vret dX12_sum_48 rfl ?_
        exact ⟨rfl, hfr, Or.inr ⟨q1, L1, L2, W2, F2, hp, hstp, hr⟩⟩
  refine MV.aload_n dX12_sum_0 rfl ?_
  refine MV.cV0 yoX12_product ml_X12_288 im_X12_product se_X12_product dX12_sum_1 rfl (Nat.le_of_ble_eq_true rfl) (by omega) rfl (Nat.le_of_ble_eq_true rfl) (hC (d - 1) s F m q L W o hmu hrel ok hF (by omega) (fun z => absurd z (by decide)) (fun _ => hm2 (by decide)) (fun x r hx => Int32.lt_trans (hW2 x r hx) (by decide))) ?_
  rintro _ s5 ⟨rfl, hf5, hx5⟩
  rcases hx5 with hx5 | ⟨q1, L1, L2, W2, F2, hp, hst, hr⟩
  · exact hbad s5 hf5 hx5
  · exact hloop (mu n q1) q1 L1 L2 W2 F2 s5 (Nat.le_refl _) hf5 (hp.down (by decide)) hst hr
