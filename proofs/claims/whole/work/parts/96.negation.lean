/-! negation, primary of the model -/
theorem cmp_so : ∀ j, j < 13 → ((isBin (nI (30 + j)) = true ∧ lvl (nI (30 + j)) = 4) ↔ (sgT j = 60 ∨ sgT j = 62 ∨ sgT j = 61 ∨ 256 ≤ sgT j)) ∧ ((isBin (nI (30 + j)) = true ∧ lvl (nI (30 + j)) = 4) → sgT j = sgV (nI (30 + j))) := by decide +kernel
theorem cmp_pw : ∀ w, w < 21 → ¬ (isBin (nI (permW w)) = true ∧ lvl (nI (permW w)) = 4) := by decide +kernel
theorem kR_cmp {kd vl so v : Int32} (h : kR kd vl so v) : (so = 3 → ((isBin kd = true ∧ lvl kd = 4) ↔ (v = 60 ∨ v = 62 ∨ v = 61 ∨ 256 ≤ v))) ∧ ((isBin kd = true ∧ lvl kd = 4) → so = 3 ∧ v = sgV kd) := by
  rcases h with ⟨h1, h2⟩ | ⟨h1, h2⟩ | ⟨h1, h2, -⟩ | ⟨h1, h2, -⟩ | ⟨w, hw, h1, h2, -⟩ | ⟨j, hj, h1, h2, h3⟩
  · rw [h1, h2]; exact ⟨fun z => absurd z (by decide), fun z => absurd z.1 (by decide)⟩
  · rw [h1, h2]; exact ⟨fun z => absurd z (by decide), fun z => absurd z.1 (by decide)⟩
  · rw [h1, h2]; exact ⟨fun z => absurd z (by decide), fun z => absurd z.1 (by decide)⟩
  · rw [h1, h2]; exact ⟨fun z => absurd z (by decide), fun z => absurd z.1 (by decide)⟩
  · rw [h1, h2]; exact ⟨fun z => absurd z (by decide), fun z => absurd z (cmp_pw w hw)⟩
  · rw [h1, h2, h3]; exact ⟨fun _ => (cmp_so j hj).1, fun z => ⟨rfl, (cmp_so j hj).2 z⟩⟩
theorem lvl_lt3 {k : Int32} (hb : isBin k = true) (h : lvl k < 5) (h4 : ¬ lvl k = 4) : lvl k < 3 := by
  have h20 : ¬ k = 20 := fun z => by rw [z] at hb; exact absurd hb (by decide)
  revert h h4
  unfold lvl
  rw [if_neg h20]
  repeat' split
  all_goals decide
theorem leaf_so : ∀ w, w < 21 → ((14 : Int32) ≤ nI w ↔ (¬ nI (permW w) < 11 ∧ nI (permW w) ≤ 17)) ∧ (14 ≤ w → ∃ j, j < 7 ∧ nI (permW w) = nI (11 + j) ∧ nI w - 14 = nI j) := by decide +kernel
theorem leaf_sg : ∀ j, j < 13 → ¬ (¬ nI (30 + j) < 11 ∧ nI (30 + j) ≤ 17) := by decide +kernel
theorem kR_leaf {kd vl so v : Int32} (h : kR kd vl so v) : ((so = 0 ∧ 14 ≤ v) ↔ (¬ kd < 11 ∧ kd ≤ 17)) ∧ ((¬ kd < 11 ∧ kd ≤ 17) → ∀ num, knR kd num 1 (v - 14)) := by
  rcases h with ⟨h1, h2⟩ | ⟨h1, h2⟩ | ⟨h1, h2, -⟩ | ⟨h1, h2, -⟩ | ⟨w, hw, h1, h2, h3⟩ | ⟨j, hj, h1, h2, h3⟩
  · rw [h1, h2]; exact ⟨⟨fun z => absurd z.1 (by decide), fun z => absurd (by decide) z.1⟩, fun z => absurd (by decide) z.1⟩
  · rw [h1, h2]; exact ⟨⟨fun z => absurd z.1 (by decide), fun z => absurd (by decide) z.1⟩, fun z => absurd (by decide) z.1⟩
  · rw [h1, h2]; exact ⟨⟨fun z => absurd z.1 (by decide), fun z => absurd (by decide) z.1⟩, fun z => absurd (by decide) z.1⟩
  · rw [h1, h2]; exact ⟨⟨fun z => absurd z.1 (by decide), fun z => absurd (by decide) z.1⟩, fun z => absurd (by decide) z.1⟩
  · rw [h1, h2, h3]
    refine ⟨⟨fun z => (leaf_so w hw).1.mp z.2, fun z => ⟨rfl, (leaf_so w hw).1.mpr z⟩⟩, fun z num => ?_⟩
    have h14 : 14 ≤ w := Nat.not_lt.mp fun y => nI_ge (a := w) (b := 14) y (by decide) ((leaf_so w hw).1.mpr z)
    obtain ⟨j, j1, j2, j3⟩ := (leaf_so w hw).2 h14
    exact Or.inr (Or.inl ⟨j, j1, j2, rfl, j3⟩)
  · rw [h1, h2]; exact ⟨⟨fun z => absurd z.1 (by decide), fun z => absurd z (leaf_sg j hj)⟩, fun z => absurd z (leaf_sg j hj)⟩
theorem num_leaf {vl v : Int32} (h : numR vl v) : (v ≤ 9999 ↔ vl ≤ 9999) ∧ (vl ≤ 9999 → knR (-3) vl 0 v) := by
  obtain ⟨x, y, h1, h2, h3, h4, h5⟩ := h
  have e : (x ≤ 9999 ↔ y ≤ 9999) := by omega
  have a1 : nI x ≤ nI 9999 ↔ x ≤ 9999 := nI_leI (by omega) (by decide)
  have a2 : nI y ≤ nI 9999 ↔ y ≤ 9999 := nI_leI (by omega) (by decide)
  refine ⟨by rw [h1, h2]; exact a1.trans (e.trans a2.symm), fun z => ?_⟩
  rw [h2] at z
  have hy := a2.mp z
  have hxy : x = y := by omega
  exact Or.inl ⟨rfl, rfl, by rw [h1, h2, hxy], okN.of h2 (by omega) (by decide)⟩
set_option maxRecDepth 100000 in
set_option maxHeartbeats 4000000 in
theorem negation1_M {d n0 a : Nat} {κ : Kd} {h0 : Hp} (hd : 4 ≤ d) {s : St} (hf : ¬ s.1 27 = 0) : MV MX12_negation (d, 0, 0, n0, κ) a h0 s 0 (some (.ref a) :: [none]) [] (fun v s' => v = none ∧ s' = s) := by
  refine MV.aload_n dX12_negation_0 rfl ?_
  refine MV.bipush (v := 13) dX12_negation_1 (by decide) ?_
  refine MV.cV1 yoX12_isWord ml_X12_273 im_X12_isWord se_X12_isWord dX12_negation_3 rfl (Nat.le_of_ble_eq_true rfl) (by omega) rfl (Nat.le_of_ble_eq_true rfl) (isWord_M (by omega)) (MV.rdK ?_)
  refine MV.eqi 0 (bI_df (fun z => hf z.1)) ?_
  refine MV.if_eq 30 dX12_negation_6 (by decide) (fun _ => ?_) (fun z => absurd (rfl) z)
  refine MV.aload_n dX12_negation_30 rfl ?_
  refine MV.cV0 yoX12_sum ml_X12_285 im_X12_sum se_X12_sum dX12_negation_31 rfl (Nat.le_of_ble_eq_true rfl) (by omega) rfl (Nat.le_of_ble_eq_true rfl) (sum1_M (s := s) (by omega) hf) ?_
  rintro _ _ ⟨rfl, rfl⟩
  refine MV.aload_n dX12_negation_34 rfl ?_
  refine MV.getf 27 fl_X12_202 dX12_negation_35 (by decide) rfl ?_
  refine MV.if_ne 86 dX12_negation_38 (by decide) (fun _ => ?_) (fun z => absurd z (hf))
  refine MV.vret dX12_negation_86 rfl ?_
  exact ⟨rfl, rfl⟩
set_option maxRecDepth 100000 in
set_option maxHeartbeats 8000000 in
theorem negation_X {κ : Kd} {n0 a : Nat} {h0 : Hp} {b : Nat → Int32} {n : Nat} {C : Cx} (hn : n ≤ 700) (hbb : ∀ k, k < n → ¬ b k = -1 ∧ b k < 256) {N : Nat} (hS : XC κ n0 a h0 b n C MX12_sum 12 5 [none] N) (hN : ∀ M, M + 1 = N → XC κ n0 a h0 b n C MX12_negation 13 3 [none] M) : XC κ n0 a h0 b n C MX12_negation 13 3 [none] N := by
  intro d s F m q L W o hmu hrel ok hF hd hm1 hm2 hW
  have hW4 : ∀ x r, W = x :: r → lvl x < 4 := fun x r hx => by have := hW x r hx; rwa [if_pos rfl] at this
  by_cases hq : q.2.1 = 20
  · skip
    have hm : m = true := hm1 (by decide)
    subst hm
    by_cases hk : L.1 0 < 64
    · skip
      obtain ⟨M, rfl⟩ : ∃ M, N = M + 1 := ⟨N - 1, by omega⟩
      obtain ⟨e1, g2, g3, g4, g5, g6⟩ := PR.nt (b := b) (C := C) (W := W) hq hF ok hrel.2.1 hk
      have hk6 := (knot_lt ok.1 hk).1
      have hr3 := hrel.knot
      have hk64 : ¬ s.1 32 = 64 := by rw [hrel.2.2.2.2.2.1]; intro z; rw [z] at hk; exact absurd hk (by decide)
      refine MV.aload_n dX12_negation_0 rfl ?_
      refine MV.bipush (v := 13) dX12_negation_1 (by decide) ?_
      refine MV.cV1 yoX12_isWord ml_X12_273 im_X12_isWord se_X12_isWord dX12_negation_3 rfl (Nat.le_of_ble_eq_true rfl) (by omega) rfl (Nat.le_of_ble_eq_true rfl) (isWord_M (by omega)) (MV.rdK ?_)
      refine MV.eqi 1 (bI_dt ((hrel.isW (j := 13) (c := 13) (k := 20) (by decide) (by decide) (by decide)).mpr hq)) ?_
      refine MV.if_eq 30 dX12_negation_6 (by decide) (fun z => absurd z (show ¬ (1 : Int32) = 0 by decide)) (fun _ => ?_)
      refine MV.aload_n dX12_negation_9 rfl ?_
      refine MV.cV0 yoX12_knot ml_X12_276 im_X12_knot se_X12_knot dX12_negation_10 rfl (Nat.le_of_ble_eq_true rfl) (by omega) rfl (Nat.le_of_ble_eq_true rfl) (knot0_M (by omega) hrel.2.2.2.2.1 hk64) ?_
      rintro _ _ ⟨rfl, rfl⟩
      refine MV.aload_n dX12_negation_13 rfl ?_
      refine MV.cV0 yoX12_goOn ml_X12_225 im_X12_goOn se_X12_goOn dX12_negation_14 rfl (Nat.le_of_ble_eq_true rfl) (by omega) rfl (Nat.le_of_ble_eq_true rfl) (hr3.goOn (by omega) hn hbb) ?_
      rintro _ s4 ⟨rfl, hk4, hr4⟩
      have hf2 := (frQ.rf.i (s1 := s) (j := 32) (by decide)).k2 hk4
      refine MV.aload_n dX12_negation_17 rfl ?_
      refine MV.cV0 yoX12_negation ml_X12_282 im_X12_negation se_X12_negation dX12_negation_18 rfl (Nat.le_of_ble_eq_true rfl) (by omega) rfl (Nat.le_of_ble_eq_true rfl) (hN M rfl (d - 1) s4 (F - 1) true (tokN b n q) (lKnot L) (20 :: W) o (by omega) hr4 g4 g2 (by omega) (fun _ => rfl) (fun z => absurd z (by decide)) (fun x r hx => by cases hx; decide)) ?_
      rintro _ s5 ⟨rfl, hf5, hx5⟩
      rcases hx5 with hx5 | ⟨q3, L3, L4, W4, F4, p3, hstp3, hr5⟩
      · skip
        refine MV.aload_n dX12_negation_21 rfl ?_
        refine MV.iconst (v := 2) dX12_negation_22 (by decide) ?_
        refine MV.sipush (v := 260) dX12_negation_23 (by decide) ?_
        refine MV.cV2 yoX12_puts ml_X12_279 im_X12_puts se_X12_puts dX12_negation_26 rfl (Nat.le_of_ble_eq_true rfl) (by omega) rfl (Nat.le_of_ble_eq_true rfl) (puts1_M (s := s5) (by omega) hx5.ne) ?_
        rintro _ _ ⟨rfl, rfl⟩
        refine MV.vret dX12_negation_29 rfl ?_
        exact ⟨rfl, hf2.tr hf5, Or.inl (hx5.of e1)⟩
      · skip
        have c5 := p3.2.2.2.2.1
        obtain ⟨ho3, ho4⟩ := okL_pop c5 (by decide)
        refine MV.aload_n dX12_negation_21 rfl ?_
        refine MV.iconst (v := 2) dX12_negation_22 (by decide) ?_
        refine MV.sipush (v := 260) dX12_negation_23 (by decide) ?_
        refine MV.cV2 yoX12_puts ml_X12_279 im_X12_puts se_X12_puts dX12_negation_26 rfl (Nat.le_of_ble_eq_true rfl) (by omega) rfl (Nat.le_of_ble_eq_true rfl) (puts0_M (s := s5) (p := nat (L3.1 1)) (by omega) hr5.2.2.2.2.1 (hr5.2.2.2.2.2.2.2.1.trans c5.2.1.1) ho3) ?_
        rintro _ _ ⟨rfl, rfl⟩
        refine MV.vret dX12_negation_29 rfl ?_
        exact ⟨rfl, (hf2.tr hf5).p, Or.inr ⟨q3, pl L3 20 0, L4, W4, F4, PR.ntNext hq hF ok hrel.2.1 hk p3, hstp3, hr5.put ho3 (Or.inr (Or.inr ⟨by decide, rfl, by decide⟩))⟩⟩
    · skip
      have hft : FT b n F true (mkS C q L W o) (mI (mI s 27 2) 28 (s.1 24)) := FT.w hrel (by decide) (PR.nt_no hq hF hk)
      refine MV.aload_n dX12_negation_0 rfl ?_
      refine MV.bipush (v := 13) dX12_negation_1 (by decide) ?_
      refine MV.cV1 yoX12_isWord ml_X12_273 im_X12_isWord se_X12_isWord dX12_negation_3 rfl (Nat.le_of_ble_eq_true rfl) (by omega) rfl (Nat.le_of_ble_eq_true rfl) (isWord_M (by omega)) (MV.rdK ?_)
      refine MV.eqi 1 (bI_dt ((hrel.isW (j := 13) (c := 13) (k := 20) (by decide) (by decide) (by decide)).mpr hq)) ?_
      refine MV.if_eq 30 dX12_negation_6 (by decide) (fun z => absurd z (show ¬ (1 : Int32) = 0 by decide)) (fun _ => ?_)
      refine MV.aload_n dX12_negation_9 rfl ?_
      refine MV.cV0 yoX12_knot ml_X12_276 im_X12_knot se_X12_knot dX12_negation_10 rfl (Nat.le_of_ble_eq_true rfl) (by omega) rfl (Nat.le_of_ble_eq_true rfl) (knotF_M (by omega) hrel.2.2.2.2.1 (hrel.2.2.2.2.2.1.trans (knot_ge ok.1 hk))) ?_
      rintro _ _ ⟨rfl, rfl⟩
      refine MV.aload_n dX12_negation_13 rfl ?_
      refine MV.cV0 yoX12_goOn ml_X12_225 im_X12_goOn se_X12_goOn dX12_negation_14 rfl (Nat.le_of_ble_eq_true rfl) (by omega) rfl (Nat.le_of_ble_eq_true rfl) (goOn1_M (s := mI (mI s 27 2) 28 (s.1 24)) (by omega) hft.ne) ?_
      rintro _ _ ⟨rfl, rfl⟩
      refine MV.aload_n dX12_negation_17 rfl ?_
      refine MV.cV0 yoX12_negation ml_X12_282 im_X12_negation se_X12_negation dX12_negation_18 rfl (Nat.le_of_ble_eq_true rfl) (by omega) rfl (Nat.le_of_ble_eq_true rfl) (negation1_M (s := mI (mI s 27 2) 28 (s.1 24)) (by omega) hft.ne) ?_
      rintro _ _ ⟨rfl, rfl⟩
      refine MV.aload_n dX12_negation_21 rfl ?_
      refine MV.iconst (v := 2) dX12_negation_22 (by decide) ?_
      refine MV.sipush (v := 260) dX12_negation_23 (by decide) ?_
      refine MV.cV2 yoX12_puts ml_X12_279 im_X12_puts se_X12_puts dX12_negation_26 rfl (Nat.le_of_ble_eq_true rfl) (by omega) rfl (Nat.le_of_ble_eq_true rfl) (puts1_M (s := mI (mI s 27 2) 28 (s.1 24)) (by omega) hft.ne) ?_
      rintro _ _ ⟨rfl, rfl⟩
      refine MV.vret dX12_negation_29 rfl ?_
      exact ⟨rfl, (frQ.rf.i (by decide)).i (by decide), Or.inl hft⟩
  · skip
    refine MV.aload_n dX12_negation_0 rfl ?_
    refine MV.bipush (v := 13) dX12_negation_1 (by decide) ?_
    refine MV.cV1 yoX12_isWord ml_X12_273 im_X12_isWord se_X12_isWord dX12_negation_3 rfl (Nat.le_of_ble_eq_true rfl) (by omega) rfl (Nat.le_of_ble_eq_true rfl) (isWord_M (by omega)) (MV.rdK ?_)
    refine MV.eqi 0 (bI_df (fun z => hq ((hrel.isW (j := 13) (c := 13) (k := 20) (by decide) (by decide) (by decide)).mp z))) ?_
    refine MV.if_eq 30 dX12_negation_6 (by decide) (fun _ => ?_) (fun z => absurd (rfl) z)
    refine MV.aload_n dX12_negation_30 rfl ?_
    refine MV.cV0 yoX12_sum ml_X12_285 im_X12_sum se_X12_sum dX12_negation_31 rfl (Nat.le_of_ble_eq_true rfl) (by omega) rfl (Nat.le_of_ble_eq_true rfl) (hS (d - 1) s F m q L W o hmu hrel ok hF (by omega) (fun z => absurd z (by decide)) (fun _ _ => hq) (fun x r hx => Int32.lt_trans (hW4 x r hx) (by decide))) ?_
    rintro _ s5 ⟨rfl, hf5, hx5⟩
    rcases hx5 with hx5 | ⟨q1, L1, L2, W2, F2, hp, hst, hr⟩
    · skip
      refine MV.aload_n dX12_negation_34 rfl ?_
      refine MV.getf 27 fl_X12_202 dX12_negation_35 (by decide) rfl ?_
      refine MV.if_ne 86 dX12_negation_38 (by decide) (fun _ => ?_) (fun z => absurd z (hx5.ne))
      refine MV.vret dX12_negation_86 rfl ?_
      exact ⟨rfl, hf5, Or.inl hx5⟩
    · skip
      have hcm := kR_cmp hr.1.2.2
      by_cases hc : isBin q1.2.1 = true ∧ lvl q1.2.1 = 4
      · skip
        obtain ⟨k, hkk⟩ : ∃ k, k = q1.2.1 := ⟨_, rfl⟩
        have hb : isBin k = true := by rw [hkk]; exact hc.1
        have hl : lvl k = 4 := by rw [hkk]; exact hc.2
        have hao : isAO k = false := by
          unfold isAO
          rw [decide_eq_false (fun z => by rw [z] at hl; exact absurd hl (by decide)), decide_eq_false (fun z => by rw [z] at hl; exact absurd hl (by decide))]; rfl
        have hval : s5.1 26 = sgV k := by rw [hkk]; exact (hcm.2 hc).2
        have hp4 := hp.down (lw := 4) (by decide)
        have hst7 : ∀ (L3 L4 : St) (W4 : List Int32) (q3 : Tk), popTo 5 W4 L4 = popTo 5 (k :: W) L3 → stO 5 q3 L4 W4 → stO 3 q3 L4 W4 := by
          intro L3 L4 W4 q3 h1 h2 hbn
          rcases h2 hbn with z | z
          · by_cases y : lvl q3.2.1 = 4
            · refine Or.inr ⟨y, k, W, ?_, hl⟩
              rw [h1, popTo_cons, if_pos (by rw [hl]; decide)]
            · exact Or.inl (lvl_lt3 hbn z y)
          · exact Or.inr z
        have h87 : MV MX12_negation (d, 0, 0, n0, κ) a h0 s5 87 [some (.ref a), none] [] (XP b n C F m q L W o 3 s) := by
          by_cases hk : L1.1 0 < 64
          · skip
            obtain ⟨e1, g2, g3, g4, g5, g6⟩ := hp4.sign hW4 hkk.symm hb hl (fun _ => hp.2.1) hk
            have hr3 := hr.knot
            have hk64 : ¬ s5.1 32 = 64 := by rw [hr.2.2.2.2.2.1]; intro z; rw [z] at hk; exact absurd hk (by decide)
            have g8 := hp.2.2.2.2.2.2.2
            have g9 := hp.2.2.2.1
            refine MV.aload_n dX12_negation_87 rfl ?_
            refine MV.getf (v := .int (sgV k)) 26 fl_X12_177 dX12_negation_88 (by decide) (congrArg (fun z => some (Value.int z)) hval) ?_
            refine MV.istore_n dX12_negation_91 (by decide) rfl ?_
            refine MV.aload_n dX12_negation_92 rfl ?_
            refine MV.cV0 yoX12_knot ml_X12_276 im_X12_knot se_X12_knot dX12_negation_93 rfl (Nat.le_of_ble_eq_true rfl) (by omega) rfl (Nat.le_of_ble_eq_true rfl) (knot0_M (by omega) hr.2.2.2.2.1 hk64) ?_
            rintro _ _ ⟨rfl, rfl⟩
            refine MV.aload_n dX12_negation_96 rfl ?_
            refine MV.cV0 yoX12_goOn ml_X12_225 im_X12_goOn se_X12_goOn dX12_negation_97 rfl (Nat.le_of_ble_eq_true rfl) (by omega) rfl (Nat.le_of_ble_eq_true rfl) (hr3.goOn (by omega) hn hbb) ?_
            rintro _ s4 ⟨rfl, hk4, hr4⟩
            have hf2 := (hf5.i (j := 32) (by decide)).k2 hk4
            refine MV.aload_n dX12_negation_100 rfl ?_
            refine MV.cV0 yoX12_sum ml_X12_285 im_X12_sum se_X12_sum dX12_negation_101 rfl (Nat.le_of_ble_eq_true rfl) (by omega) rfl (Nat.le_of_ble_eq_true rfl) (hS (d - 1) s4 (F2 - 1) (isAO k) (tokN b n q1) (lKnot L1) (k :: W) o (by omega) hr4 g4 g2 (by omega) (fun z => absurd z (by decide)) (fun _ z => absurd z (by rw [hao]; decide)) (fun x r hx => by cases hx; rw [hl]; decide)) ?_
            rintro _ s6 ⟨rfl, hf6, hx6⟩
            rcases hx6 with hx6 | ⟨q3, L3, L4, W4, F4, p3, hstp3, hr6⟩
            · skip
              refine MV.aload_n dX12_negation_104 rfl ?_
              refine MV.iconst (v := 2) dX12_negation_105 (by decide) ?_
              refine MV.iload_n dX12_negation_106 rfl ?_
              refine MV.cV2 yoX12_puts ml_X12_279 im_X12_puts se_X12_puts dX12_negation_107 rfl (Nat.le_of_ble_eq_true rfl) (by omega) rfl (Nat.le_of_ble_eq_true rfl) (puts1_M (s := s6) (by omega) hx6.ne) ?_
              rintro _ _ ⟨rfl, rfl⟩
              refine MV.vret dX12_negation_110 rfl ?_
              exact ⟨rfl, hf2.tr hf6, Or.inl (hx6.of e1)⟩
            · skip
              have c5 := p3.2.2.2.2.1
              obtain ⟨ho3, ho4⟩ := okL_pop c5 (bin_31 hb).1
              refine MV.aload_n dX12_negation_104 rfl ?_
              refine MV.iconst (v := 2) dX12_negation_105 (by decide) ?_
              refine MV.iload_n dX12_negation_106 rfl ?_
              refine MV.cV2 yoX12_puts ml_X12_279 im_X12_puts se_X12_puts dX12_negation_107 rfl (Nat.le_of_ble_eq_true rfl) (by omega) rfl (Nat.le_of_ble_eq_true rfl) (puts0_M (s := s6) (p := nat (L3.1 1)) (by omega) hr6.2.2.2.2.1 (hr6.2.2.2.2.2.2.2.1.trans c5.2.1.1) ho3) ?_
              rintro _ _ ⟨rfl, rfl⟩
              refine MV.vret dX12_negation_110 rfl ?_
              exact ⟨rfl, (hf2.tr hf6).p, Or.inr ⟨q3, pl L3 k 0, L4, W4, F4, (hp4.next e1 hkk.symm hb hl hk p3 (by decide)).down (by decide), hst7 L3 L4 W4 q3 p3.2.1 hstp3, hr6.put ho3 (Or.inr (Or.inr ⟨by rw [takes_bin hb]; decide, rfl, rfl⟩))⟩⟩
          · skip
            have hft : FT b n F m (mkS C q L W o) (mI (mI s5 27 2) 28 (s5.1 24)) := FT.w hr (by decide) (hp4.sign_no hW4 hkk.symm hb hl (fun _ => hp.2.1) hk)
            refine MV.aload_n dX12_negation_87 rfl ?_
            refine MV.getf (v := .int (sgV k)) 26 fl_X12_177 dX12_negation_88 (by decide) (congrArg (fun z => some (Value.int z)) hval) ?_
            refine MV.istore_n dX12_negation_91 (by decide) rfl ?_
            refine MV.aload_n dX12_negation_92 rfl ?_
            refine MV.cV0 yoX12_knot ml_X12_276 im_X12_knot se_X12_knot dX12_negation_93 rfl (Nat.le_of_ble_eq_true rfl) (by omega) rfl (Nat.le_of_ble_eq_true rfl) (knotF_M (by omega) hr.2.2.2.2.1 (hr.2.2.2.2.2.1.trans (knot_ge hp.2.2.2.2.1.1 hk))) ?_
            rintro _ _ ⟨rfl, rfl⟩
            refine MV.aload_n dX12_negation_96 rfl ?_
            refine MV.cV0 yoX12_goOn ml_X12_225 im_X12_goOn se_X12_goOn dX12_negation_97 rfl (Nat.le_of_ble_eq_true rfl) (by omega) rfl (Nat.le_of_ble_eq_true rfl) (goOn1_M (s := mI (mI s5 27 2) 28 (s5.1 24)) (by omega) hft.ne) ?_
            rintro _ _ ⟨rfl, rfl⟩
            refine MV.aload_n dX12_negation_100 rfl ?_
            refine MV.cV0 yoX12_sum ml_X12_285 im_X12_sum se_X12_sum dX12_negation_101 rfl (Nat.le_of_ble_eq_true rfl) (by omega) rfl (Nat.le_of_ble_eq_true rfl) (sum1_M (s := mI (mI s5 27 2) 28 (s5.1 24)) (by omega) hft.ne) ?_
            rintro _ _ ⟨rfl, rfl⟩
            refine MV.aload_n dX12_negation_104 rfl ?_
            refine MV.iconst (v := 2) dX12_negation_105 (by decide) ?_
            refine MV.iload_n dX12_negation_106 rfl ?_
            refine MV.cV2 yoX12_puts ml_X12_279 im_X12_puts se_X12_puts dX12_negation_107 rfl (Nat.le_of_ble_eq_true rfl) (by omega) rfl (Nat.le_of_ble_eq_true rfl) (puts1_M (s := mI (mI s5 27 2) 28 (s5.1 24)) (by omega) hft.ne) ?_
            rintro _ _ ⟨rfl, rfl⟩
            refine MV.vret dX12_negation_110 rfl ?_
            exact ⟨rfl, (hf5.i (by decide)).i (by decide), Or.inl hft⟩
        refine MV.aload_n dX12_negation_34 rfl ?_
        refine MV.getf 27 fl_X12_202 dX12_negation_35 (by decide) rfl ?_
        refine MV.if_ne 86 dX12_negation_38 (by decide) (fun z => absurd (hr.2.2.2.2.1) z) (fun _ => ?_)
        refine MV.aload_n dX12_negation_41 rfl ?_
        refine MV.getf 25 fl_X12_167 dX12_negation_42 (by decide) rfl ?_
        refine MV.iconst (v := 3) dX12_negation_45 (by decide) ?_
        refine MV.icmp_ne 86 dX12_negation_46 (by decide) (fun z => absurd ((hcm.2 hc).1) z) (fun _ => ?_)
        refine MV.aload_n dX12_negation_49 rfl ?_
        refine MV.getf 26 fl_X12_177 dX12_negation_50 (by decide) rfl ?_
        refine MV.bipush (v := 60) dX12_negation_53 (by decide) ?_
        refine MV.icmp_eq 87 dX12_negation_55 (by decide) (fun c55 => ?_) (fun c55 => ?_)
        · skip
          exact h87
        · skip
          refine MV.aload_n dX12_negation_58 rfl ?_
          refine MV.getf 26 fl_X12_177 dX12_negation_59 (by decide) rfl ?_
          refine MV.bipush (v := 62) dX12_negation_62 (by decide) ?_
          refine MV.icmp_eq 87 dX12_negation_64 (by decide) (fun c64 => ?_) (fun c64 => ?_)
          · skip
            exact h87
          · skip
            refine MV.aload_n dX12_negation_67 rfl ?_
            refine MV.getf 26 fl_X12_177 dX12_negation_68 (by decide) rfl ?_
            refine MV.bipush (v := 61) dX12_negation_71 (by decide) ?_
            refine MV.icmp_eq 87 dX12_negation_73 (by decide) (fun c73 => ?_) (fun c73 => ?_)
            · skip
              exact h87
            · skip
              refine MV.aload_n dX12_negation_76 rfl ?_
              refine MV.getf 26 fl_X12_177 dX12_negation_77 (by decide) rfl ?_
              refine MV.sipush (v := 256) dX12_negation_80 (by decide) ?_
              refine MV.icmp_ge 87 dX12_negation_83 (by decide) (fun c83 => ?_) (fun c83 => ?_)
              · skip
                exact h87
              · skip
                exact absurd ((hcm.1 (hcm.2 hc).1).mp hc) (fun z => z.elim c55 (fun z => z.elim c64 (fun z => z.elim c73 c83)))
      · skip
        have hstp : stO 3 q1 L2 W2 := fun hbn => (hst hbn).imp (fun z => lvl_lt3 hbn z (fun y => hc ⟨hbn, y⟩)) id
        refine MV.aload_n dX12_negation_34 rfl ?_
        refine MV.getf 27 fl_X12_202 dX12_negation_35 (by decide) rfl ?_
        refine MV.if_ne 86 dX12_negation_38 (by decide) (fun z => absurd (hr.2.2.2.2.1) z) (fun _ => ?_)
        refine MV.aload_n dX12_negation_41 rfl ?_
        refine MV.getf 25 fl_X12_167 dX12_negation_42 (by decide) rfl ?_
        refine MV.iconst (v := 3) dX12_negation_45 (by decide) ?_
        refine MV.icmp_ne 86 dX12_negation_46 (by decide) (fun c46 => ?_) (fun c46 => ?_)
        · skip
          refine MV.vret dX12_negation_86 rfl ?_
          exact ⟨rfl, hf5, Or.inr ⟨q1, L1, L2, W2, F2, hp.down (by decide), hstp, hr⟩⟩
        · skip
          have hnc := fun z => hc ((hcm.1 c46).mpr z)
          refine MV.aload_n dX12_negation_49 rfl ?_
          refine MV.getf 26 fl_X12_177 dX12_negation_50 (by decide) rfl ?_
          refine MV.bipush (v := 60) dX12_negation_53 (by decide) ?_
          refine MV.icmp_eq 87 dX12_negation_55 (by decide) (fun c55 => ?_) (fun c55 => ?_)
          · skip
            first
            | exact absurd (Or.inl c55) hnc
            | exact absurd (Or.inr (Or.inl c64)) hnc
            | exact absurd (Or.inr (Or.inr (Or.inl c73))) hnc
            | exact absurd (Or.inr (Or.inr (Or.inr c83))) hnc
          · skip
            refine MV.aload_n dX12_negation_58 rfl ?_
            refine MV.getf 26 fl_X12_177 dX12_negation_59 (by decide) rfl ?_
            refine MV.bipush (v := 62) dX12_negation_62 (by decide) ?_
            refine MV.icmp_eq 87 dX12_negation_64 (by decide) (fun c64 => ?_) (fun c64 => ?_)
            · skip
              first
              | exact absurd (Or.inl c55) hnc
              | exact absurd (Or.inr (Or.inl c64)) hnc
              | exact absurd (Or.inr (Or.inr (Or.inl c73))) hnc
              | exact absurd (Or.inr (Or.inr (Or.inr c83))) hnc
            · skip
              refine MV.aload_n dX12_negation_67 rfl ?_
              refine MV.getf 26 fl_X12_177 dX12_negation_68 (by decide) rfl ?_
              refine MV.bipush (v := 61) dX12_negation_71 (by decide) ?_
              refine MV.icmp_eq 87 dX12_negation_73 (by decide) (fun c73 => ?_) (fun c73 => ?_)
              · skip
                first
                | exact absurd (Or.inl c55) hnc
                | exact absurd (Or.inr (Or.inl c64)) hnc
                | exact absurd (Or.inr (Or.inr (Or.inl c73))) hnc
                | exact absurd (Or.inr (Or.inr (Or.inr c83))) hnc
              · skip
                refine MV.aload_n dX12_negation_76 rfl ?_
                refine MV.getf 26 fl_X12_177 dX12_negation_77 (by decide) rfl ?_
                refine MV.sipush (v := 256) dX12_negation_80 (by decide) ?_
                refine MV.icmp_ge 87 dX12_negation_83 (by decide) (fun c83 => ?_) (fun c83 => ?_)
                · skip
                  first
                  | exact absurd (Or.inl c55) hnc
                  | exact absurd (Or.inr (Or.inl c64)) hnc
                  | exact absurd (Or.inr (Or.inr (Or.inl c73))) hnc
                  | exact absurd (Or.inr (Or.inr (Or.inr c83))) hnc
                · skip
                  refine MV.vret dX12_negation_86 rfl ?_
                  exact ⟨rfl, hf5, Or.inr ⟨q1, L1, L2, W2, F2, hp.down (by decide), hstp, hr⟩⟩
theorem stO7 {q : Tk} {L : St} {W : List Int32} : stO 7 q L W := fun _ => Or.inl (by
  unfold lvl
  repeat' split
  all_goals decide)
set_option maxRecDepth 100000 in
set_option maxHeartbeats 8000000 in
theorem primary_X {κ : Kd} {n0 a : Nat} {h0 : Hp} {b : Nat → Int32} {n : Nat} {C : Cx} (hn : n ≤ 700) (hbb : ∀ k, k < n → ¬ b k = -1 ∧ b k < 256) {N : Nat} (hE : ∀ M, M + 1 = N → XC κ n0 a h0 b n C MX12_expression 15 1 [] M) : XC κ n0 a h0 b n C MX12_primary 10 7 [none] N := by
  intro d s F m q L W o hmu hrel ok hF hd hm1 hm2 hW
  have ho8' := ok.2.2.2.2
  have h1F := mu_1 n q
  by_cases hq : q.2.1 = 31
  · skip
    by_cases ho : o < 8
    · skip
      obtain ⟨M, rfl⟩ : ∃ M, N = M + 1 := ⟨N - 1, by omega⟩
      obtain ⟨e1, g2, g3, g4, g5⟩ := PR.par (b := b) (C := C) (m := m) (W := W) hq hF ok hrel.2.1 ho
      have hno8 : ¬ s.1 31 = 8 := by rw [hrel.2.2.2.2.2.2.1]; exact fun z => absurd (nI_eq700 (by omega) (by decide) (show nI o = nI 8 from z)) (by omega)
      refine MV.aload_n dX12_primary_0 rfl ?_
      refine MV.getf 27 fl_X12_202 dX12_primary_1 (by decide) rfl ?_
      refine MV.if_eq 8 dX12_primary_4 (by decide) (fun _ => ?_) (fun z => absurd (hrel.2.2.2.2.1) z)
      refine MV.aload_n dX12_primary_8 rfl ?_
      refine MV.bipush (v := 40) dX12_primary_9 (by decide) ?_
      refine MV.cV1 yoX12_isSign ml_X12_258 im_X12_isSign se_X12_isSign dX12_primary_11 rfl (Nat.le_of_ble_eq_true rfl) (by omega) rfl (Nat.le_of_ble_eq_true rfl) (isSign_M (by omega)) (MV.rdK ?_)
      refine MV.eqi 1 (bI_dt ((hrel.isS (j := 1) (c := 40) (k := 31) (by decide) (by decide) (by decide)).mpr hq)) ?_
      refine MV.if_eq 101 dX12_primary_14 (by decide) (fun z => absurd z (show ¬ (1 : Int32) = 0 by decide)) (fun _ => ?_)
      refine MV.aload_n dX12_primary_17 rfl ?_
      refine MV.getf 31 fl_X12_294 dX12_primary_18 (by decide) rfl ?_
      refine MV.bipush (v := 8) dX12_primary_21 (by decide) ?_
      refine MV.icmp_ne 31 dX12_primary_23 (by decide) (fun _ => ?_) (fun z => absurd z (hno8))
      refine MV.aload_n dX12_primary_31 rfl ?_
      refine MV.getf 27 fl_X12_202 dX12_primary_32 (by decide) rfl ?_
      refine MV.if_eq 39 dX12_primary_35 (by decide) (fun _ => ?_) (fun z => absurd (hrel.2.2.2.2.1) z)
      refine MV.aload_n dX12_primary_39 rfl ?_
      refine MV.dup dX12_primary_40 rfl ?_
      refine MV.getf 31 fl_X12_294 dX12_primary_41 (by decide) rfl ?_
      refine MV.iconst (v := 1) dX12_primary_44 (by decide) ?_
      refine MV.iadd dX12_primary_45 ?_
      refine MV.putf 31 fl_X12_294 dX12_primary_46 (by decide) rfl (rfl) (rfl) C12_s31 ?_
      refine MV.aload_n dX12_primary_49 rfl ?_
      refine MV.cV0 yoX12_token ml_X12_208 im_X12_token se_X12_token dX12_primary_50 rfl (Nat.le_of_ble_eq_true rfl) (by omega) rfl (Nat.le_of_ble_eq_true rfl) (hrel.opn.token (by omega) hn hbb) ?_
      rintro _ s4 ⟨rfl, hk4, hr4⟩
      have hf2 := (frQ.rf.i (s1 := s) (j := 31) (by decide)).k2 hk4
      refine MV.aload_n dX12_primary_53 rfl ?_
      refine MV.cV0 yoX12_expression ml_X12_264 im_X12_expression se_X12_expression dX12_primary_54 rfl (Nat.le_of_ble_eq_true rfl) (by omega) rfl (Nat.le_of_ble_eq_true rfl) (hE M rfl (d - 1) s4 (F - 1) true (tokN b n q) L (31 :: W) (o + 1) (by omega) hr4 g4 g2 (by omega) (fun _ => rfl) (fun z => absurd z (by decide)) (fun x r hx => by cases hx; decide)) ?_
      rintro _ s5 ⟨rfl, hf5, hx5⟩
      rcases hx5 with hx5 | ⟨q3, L3, L4, W4, F4, p3, hstp3, hr5⟩
      · skip
        refine MV.aload_n dX12_primary_57 rfl ?_
        refine MV.getf 27 fl_X12_202 dX12_primary_58 (by decide) rfl ?_
        refine MV.if_ne 78 dX12_primary_61 (by decide) (fun _ => ?_) (fun z => absurd z (hx5.ne))
        refine MV.aload_n dX12_primary_78 rfl ?_
        refine MV.getf 27 fl_X12_202 dX12_primary_79 (by decide) rfl ?_
        refine MV.if_eq 86 dX12_primary_82 (by decide) (fun z => absurd z (hx5.ne)) (fun _ => ?_)
        refine MV.vret dX12_primary_85 rfl ?_
        exact ⟨rfl, hf2.tr hf5, Or.inl (hx5.of e1)⟩
      · skip
        by_cases h32 : q3.2.1 = 32
        · skip
          refine MV.aload_n dX12_primary_57 rfl ?_
          refine MV.getf 27 fl_X12_202 dX12_primary_58 (by decide) rfl ?_
          refine MV.if_ne 78 dX12_primary_61 (by decide) (fun z => absurd (hr5.2.2.2.2.1) z) (fun _ => ?_)
          refine MV.aload_n dX12_primary_64 rfl ?_
          refine MV.bipush (v := 41) dX12_primary_65 (by decide) ?_
          refine MV.cV1 yoX12_isSign ml_X12_258 im_X12_isSign se_X12_isSign dX12_primary_67 rfl (Nat.le_of_ble_eq_true rfl) (by omega) rfl (Nat.le_of_ble_eq_true rfl) (isSign_M (by omega)) (MV.rdK ?_)
          refine MV.eqi 1 (bI_dt ((hr5.isS (j := 2) (c := 41) (k := 32) (by decide) (by decide) (by decide)).mpr h32)) ?_
          refine MV.if_ne 78 dX12_primary_70 (by decide) (fun _ => ?_) (fun z => absurd z (show ¬ (1 : Int32) = 0 by decide))
          refine MV.aload_n dX12_primary_78 rfl ?_
          refine MV.getf 27 fl_X12_202 dX12_primary_79 (by decide) rfl ?_
          refine MV.if_eq 86 dX12_primary_82 (by decide) (fun _ => ?_) (fun z => absurd (hr5.2.2.2.2.1) z)
          refine MV.aload_n dX12_primary_86 rfl ?_
          refine MV.dup dX12_primary_87 rfl ?_
          refine MV.getf 31 fl_X12_294 dX12_primary_88 (by decide) rfl ?_
          refine MV.iconst (v := 1) dX12_primary_91 (by decide) ?_
          refine MV.isub dX12_primary_92 ?_
          refine MV.putf 31 fl_X12_294 dX12_primary_93 (by decide) rfl (rfl) (rfl) C12_s31 ?_
          refine MV.aload_n dX12_primary_96 rfl ?_
          refine MV.cV0 yoX12_token ml_X12_208 im_X12_token se_X12_token dX12_primary_97 rfl (Nat.le_of_ble_eq_true rfl) (by omega) rfl (Nat.le_of_ble_eq_true rfl) (hr5.cls.token (by omega) hn hbb) ?_
          rintro _ s6 ⟨rfl, hk6, hr6⟩
          refine MV.vret dX12_primary_100 rfl ?_
          exact ⟨rfl, ((hf2.tr hf5).i (by decide)).k2 hk6, Or.inr ⟨tokN b n q3, L3, L3, W, F4 - 1, PR.close hq hF ok hrel.2.1 ho p3 h32, stO7, hr6⟩⟩
        · skip
          have hft : FT b n F m (mkS C q L W o) (mI (mI s5 27 1) 28 (s5.1 24)) := FT.w hr5 (by decide) (PR.close_no hq hF ok hrel.2.1 ho p3 hstp3 h32)
          refine MV.aload_n dX12_primary_57 rfl ?_
          refine MV.getf 27 fl_X12_202 dX12_primary_58 (by decide) rfl ?_
          refine MV.if_ne 78 dX12_primary_61 (by decide) (fun z => absurd (hr5.2.2.2.2.1) z) (fun _ => ?_)
          refine MV.aload_n dX12_primary_64 rfl ?_
          refine MV.bipush (v := 41) dX12_primary_65 (by decide) ?_
          refine MV.cV1 yoX12_isSign ml_X12_258 im_X12_isSign se_X12_isSign dX12_primary_67 rfl (Nat.le_of_ble_eq_true rfl) (by omega) rfl (Nat.le_of_ble_eq_true rfl) (isSign_M (by omega)) (MV.rdK ?_)
          refine MV.eqi 0 (bI_df (fun z => h32 ((hr5.isS (j := 2) (c := 41) (k := 32) (by decide) (by decide) (by decide)).mp z))) ?_
          refine MV.if_ne 78 dX12_primary_70 (by decide) (fun z => absurd (rfl) z) (fun _ => ?_)
          refine MV.aload_n dX12_primary_73 rfl ?_
          refine MV.iconst (v := 1) dX12_primary_74 (by decide) ?_
          refine MV.cV1 yoX12_wrong ml_X12_211 im_X12_wrong se_X12_wrong dX12_primary_75 rfl (Nat.le_of_ble_eq_true rfl) (by omega) rfl (Nat.le_of_ble_eq_true rfl) (wrong0_M (by omega) hr5.2.2.2.2.1) ?_
          rintro _ _ ⟨rfl, rfl⟩
          refine MV.aload_n dX12_primary_78 rfl ?_
          refine MV.getf 27 fl_X12_202 dX12_primary_79 (by decide) rfl ?_
          refine MV.if_eq 86 dX12_primary_82 (by decide) (fun z => absurd z (hft.ne)) (fun _ => ?_)
          refine MV.vret dX12_primary_85 rfl ?_
          exact ⟨rfl, ((hf2.tr hf5).i (by decide)).i (by decide), Or.inl hft⟩
    · skip
      have ho8 : o = 8 := by omega
      have hft : FT b n F m (mkS C q L W o) (mI (mI s 27 2) 28 (s.1 24)) := FT.w hrel (by decide) (by obtain ⟨G, rfl⟩ : ∃ G, F = G + 1 := ⟨F - 1, by omega⟩; exact E_open_no hq ho)
      refine MV.aload_n dX12_primary_0 rfl ?_
      refine MV.getf 27 fl_X12_202 dX12_primary_1 (by decide) rfl ?_
      refine MV.if_eq 8 dX12_primary_4 (by decide) (fun _ => ?_) (fun z => absurd (hrel.2.2.2.2.1) z)
      refine MV.aload_n dX12_primary_8 rfl ?_
      refine MV.bipush (v := 40) dX12_primary_9 (by decide) ?_
      refine MV.cV1 yoX12_isSign ml_X12_258 im_X12_isSign se_X12_isSign dX12_primary_11 rfl (Nat.le_of_ble_eq_true rfl) (by omega) rfl (Nat.le_of_ble_eq_true rfl) (isSign_M (by omega)) (MV.rdK ?_)
      refine MV.eqi 1 (bI_dt ((hrel.isS (j := 1) (c := 40) (k := 31) (by decide) (by decide) (by decide)).mpr hq)) ?_
      refine MV.if_eq 101 dX12_primary_14 (by decide) (fun z => absurd z (show ¬ (1 : Int32) = 0 by decide)) (fun _ => ?_)
      refine MV.aload_n dX12_primary_17 rfl ?_
      refine MV.getf 31 fl_X12_294 dX12_primary_18 (by decide) rfl ?_
      refine MV.bipush (v := 8) dX12_primary_21 (by decide) ?_
      refine MV.icmp_ne 31 dX12_primary_23 (by decide) (fun z => absurd (by rw [hrel.2.2.2.2.2.2.1, ho8]; rfl) z) (fun _ => ?_)
      refine MV.aload_n dX12_primary_26 rfl ?_
      refine MV.iconst (v := 2) dX12_primary_27 (by decide) ?_
      refine MV.cV1 yoX12_wrong ml_X12_211 im_X12_wrong se_X12_wrong dX12_primary_28 rfl (Nat.le_of_ble_eq_true rfl) (by omega) rfl (Nat.le_of_ble_eq_true rfl) (wrong0_M (by omega) hrel.2.2.2.2.1) ?_
      rintro _ _ ⟨rfl, rfl⟩
      refine MV.aload_n dX12_primary_31 rfl ?_
      refine MV.getf 27 fl_X12_202 dX12_primary_32 (by decide) rfl ?_
      refine MV.if_eq 39 dX12_primary_35 (by decide) (fun z => absurd z (hft.ne)) (fun _ => ?_)
      refine MV.vret dX12_primary_38 rfl ?_
      exact ⟨rfl, (frQ.rf.i (by decide)).i (by decide), Or.inl hft⟩
  · skip
    by_cases h3 : q.2.1 = -3
    · skip
      have hso2 : s.1 25 = 2 := (kR_num hrel.1.2.2).mpr h3
      have hnr := num_leaf (kR_numV hrel.1.2.2 h3)
      by_cases hv : q.2.2.2 ≤ 9999
      · skip
        have hv9 : s.1 26 ≤ 9999 := hnr.1.mpr hv
        have hlf : leafB q := Or.inl ⟨h3, hv⟩
        by_cases hk : L.1 0 < 64
        · skip
          have hk64 : ¬ s.1 32 = 64 := by rw [hrel.2.2.2.2.2.1]; intro z; rw [z] at hk; exact absurd hk (by decide)
          have hp64 := (okL_knot ok hk).2.2
          have hkn : knR q.2.1 q.2.2.2 0 (s.1 26) := by rw [h3]; exact hnr.2 hv
          refine MV.aload_n dX12_primary_0 rfl ?_
          refine MV.getf 27 fl_X12_202 dX12_primary_1 (by decide) rfl ?_
          refine MV.if_eq 8 dX12_primary_4 (by decide) (fun _ => ?_) (fun z => absurd (hrel.2.2.2.2.1) z)
          refine MV.aload_n dX12_primary_8 rfl ?_
          refine MV.bipush (v := 40) dX12_primary_9 (by decide) ?_
          refine MV.cV1 yoX12_isSign ml_X12_258 im_X12_isSign se_X12_isSign dX12_primary_11 rfl (Nat.le_of_ble_eq_true rfl) (by omega) rfl (Nat.le_of_ble_eq_true rfl) (isSign_M (by omega)) (MV.rdK ?_)
          refine MV.eqi 0 (bI_df (fun z => hq ((hrel.isS (j := 1) (c := 40) (k := 31) (by decide) (by decide) (by decide)).mp z))) ?_
          refine MV.if_eq 101 dX12_primary_14 (by decide) (fun _ => ?_) (fun z => absurd (rfl) z)
          refine MV.aload_n dX12_primary_101 rfl ?_
          refine MV.getf 25 fl_X12_167 dX12_primary_102 (by decide) rfl ?_
          refine MV.iconst (v := 2) dX12_primary_105 (by decide) ?_
          refine MV.icmp_ne 113 dX12_primary_106 (by decide) (fun z => absurd (hso2) z) (fun _ => ?_)
          refine MV.iconst (v := 1) dX12_primary_109 (by decide) ?_
          refine MV.goto 114 dX12_primary_110 (by decide) ?_
          refine MV.istore_n dX12_primary_114 (by decide) rfl ?_
          refine MV.iload_n dX12_primary_115 rfl ?_
          refine MV.if_eq 137 dX12_primary_116 (by decide) (fun z => absurd z (show ¬ (1 : Int32) = 0 by decide)) (fun _ => ?_)
          refine MV.aload_n dX12_primary_119 rfl ?_
          refine MV.getf 26 fl_X12_177 dX12_primary_120 (by decide) rfl ?_
          refine MV.sipush (v := 9999) dX12_primary_123 (by decide) ?_
          refine MV.icmp_le 137 dX12_primary_126 (by decide) (fun _ => ?_) (fun z => absurd (hv9) z)
          refine MV.iload_n dX12_primary_137 rfl ?_
          refine MV.if_ne 162 dX12_primary_138 (by decide) (fun _ => ?_) (fun z => absurd z (show ¬ (1 : Int32) = 0 by decide))
          refine MV.aload_n dX12_primary_162 rfl ?_
          refine MV.cV0 yoX12_knot ml_X12_276 im_X12_knot se_X12_knot dX12_primary_163 rfl (Nat.le_of_ble_eq_true rfl) (by omega) rfl (Nat.le_of_ble_eq_true rfl) (knot0_M (by omega) hrel.2.2.2.2.1 hk64) ?_
          rintro _ _ ⟨rfl, rfl⟩
          refine MV.aload_n dX12_primary_166 rfl ?_
          refine MV.iload_n dX12_primary_167 rfl ?_
          refine MV.if_eq 175 dX12_primary_168 (by decide) (fun z => absurd z (show ¬ (1 : Int32) = 0 by decide)) (fun _ => ?_)
          refine MV.iconst (v := 0) dX12_primary_171 (by decide) ?_
          refine MV.goto 176 dX12_primary_172 (by decide) ?_
          refine MV.iload_n dX12_primary_176 rfl ?_
          refine MV.if_eq 187 dX12_primary_177 (by decide) (fun z => absurd z (show ¬ (1 : Int32) = 0 by decide)) (fun _ => ?_)
          refine MV.aload_n dX12_primary_180 rfl ?_
          refine MV.getf 26 fl_X12_177 dX12_primary_181 (by decide) rfl ?_
          refine MV.goto 194 dX12_primary_184 (by decide) ?_
          refine MV.cV2 yoX12_puts ml_X12_279 im_X12_puts se_X12_puts dX12_primary_194 rfl (Nat.le_of_ble_eq_true rfl) (by omega) rfl (Nat.le_of_ble_eq_true rfl) (puts0_M (s := mI s 32 (s.1 32 + 1)) (p := nat (L.1 1)) (by omega) hrel.2.2.2.2.1 (hrel.2.2.2.2.2.2.2.1.trans ok.2.1.1) hp64) ?_
          rintro _ _ ⟨rfl, rfl⟩
          refine MV.aload_n dX12_primary_197 rfl ?_
          refine MV.cV0 yoX12_goOn ml_X12_225 im_X12_goOn se_X12_goOn dX12_primary_198 rfl (Nat.le_of_ble_eq_true rfl) (by omega) rfl (Nat.le_of_ble_eq_true rfl) ((hrel.knot.put (v := q.2.2.2) hp64 hkn).goOn (by omega) hn hbb) ?_
          rintro _ s4 ⟨rfl, hk4, hr4⟩
          refine MV.vret dX12_primary_201 rfl ?_
          exact ⟨rfl, ((frQ.rf.i (s1 := s) (j := 32) (by decide)).p).k2 hk4, Or.inr ⟨tokN b n q, pl (lKnot L) q.2.1 q.2.2.2, pl (lKnot L) q.2.1 q.2.2.2, W, F - 1, PR.leaf hlf hk hF ok hrel.2.1, stO7, hr4⟩⟩
        · skip
          have hft : FT b n F m (mkS C q L W o) (mI (mI s 27 2) 28 (s.1 24)) := FT.w hrel (by decide) (by obtain ⟨G, rfl⟩ : ∃ G, F = G + 1 := ⟨F - 1, by omega⟩; exact E_leaf_no hlf hk)
          refine MV.aload_n dX12_primary_0 rfl ?_
          refine MV.getf 27 fl_X12_202 dX12_primary_1 (by decide) rfl ?_
          refine MV.if_eq 8 dX12_primary_4 (by decide) (fun _ => ?_) (fun z => absurd (hrel.2.2.2.2.1) z)
          refine MV.aload_n dX12_primary_8 rfl ?_
          refine MV.bipush (v := 40) dX12_primary_9 (by decide) ?_
          refine MV.cV1 yoX12_isSign ml_X12_258 im_X12_isSign se_X12_isSign dX12_primary_11 rfl (Nat.le_of_ble_eq_true rfl) (by omega) rfl (Nat.le_of_ble_eq_true rfl) (isSign_M (by omega)) (MV.rdK ?_)
          refine MV.eqi 0 (bI_df (fun z => hq ((hrel.isS (j := 1) (c := 40) (k := 31) (by decide) (by decide) (by decide)).mp z))) ?_
          refine MV.if_eq 101 dX12_primary_14 (by decide) (fun _ => ?_) (fun z => absurd (rfl) z)
          refine MV.aload_n dX12_primary_101 rfl ?_
          refine MV.getf 25 fl_X12_167 dX12_primary_102 (by decide) rfl ?_
          refine MV.iconst (v := 2) dX12_primary_105 (by decide) ?_
          refine MV.icmp_ne 113 dX12_primary_106 (by decide) (fun z => absurd (hso2) z) (fun _ => ?_)
          refine MV.iconst (v := 1) dX12_primary_109 (by decide) ?_
          refine MV.goto 114 dX12_primary_110 (by decide) ?_
          refine MV.istore_n dX12_primary_114 (by decide) rfl ?_
          refine MV.iload_n dX12_primary_115 rfl ?_
          refine MV.if_eq 137 dX12_primary_116 (by decide) (fun z => absurd z (show ¬ (1 : Int32) = 0 by decide)) (fun _ => ?_)
          refine MV.aload_n dX12_primary_119 rfl ?_
          refine MV.getf 26 fl_X12_177 dX12_primary_120 (by decide) rfl ?_
          refine MV.sipush (v := 9999) dX12_primary_123 (by decide) ?_
          refine MV.icmp_le 137 dX12_primary_126 (by decide) (fun _ => ?_) (fun z => absurd (hv9) z)
          refine MV.iload_n dX12_primary_137 rfl ?_
          refine MV.if_ne 162 dX12_primary_138 (by decide) (fun _ => ?_) (fun z => absurd z (show ¬ (1 : Int32) = 0 by decide))
          refine MV.aload_n dX12_primary_162 rfl ?_
          refine MV.cV0 yoX12_knot ml_X12_276 im_X12_knot se_X12_knot dX12_primary_163 rfl (Nat.le_of_ble_eq_true rfl) (by omega) rfl (Nat.le_of_ble_eq_true rfl) (knotF_M (by omega) hrel.2.2.2.2.1 (hrel.2.2.2.2.2.1.trans (knot_ge ok.1 hk))) ?_
          rintro _ _ ⟨rfl, rfl⟩
          refine MV.aload_n dX12_primary_166 rfl ?_
          refine MV.iload_n dX12_primary_167 rfl ?_
          refine MV.if_eq 175 dX12_primary_168 (by decide) (fun z => absurd z (show ¬ (1 : Int32) = 0 by decide)) (fun _ => ?_)
          refine MV.iconst (v := 0) dX12_primary_171 (by decide) ?_
          refine MV.goto 176 dX12_primary_172 (by decide) ?_
          refine MV.iload_n dX12_primary_176 rfl ?_
          refine MV.if_eq 187 dX12_primary_177 (by decide) (fun z => absurd z (show ¬ (1 : Int32) = 0 by decide)) (fun _ => ?_)
          refine MV.aload_n dX12_primary_180 rfl ?_
          refine MV.getf 26 fl_X12_177 dX12_primary_181 (by decide) rfl ?_
          refine MV.goto 194 dX12_primary_184 (by decide) ?_
          refine MV.cV2 yoX12_puts ml_X12_279 im_X12_puts se_X12_puts dX12_primary_194 rfl (Nat.le_of_ble_eq_true rfl) (by omega) rfl (Nat.le_of_ble_eq_true rfl) (puts1_M (s := mI (mI s 27 2) 28 (s.1 24)) (by omega) hft.ne) ?_
          rintro _ _ ⟨rfl, rfl⟩
          refine MV.aload_n dX12_primary_197 rfl ?_
          refine MV.cV0 yoX12_goOn ml_X12_225 im_X12_goOn se_X12_goOn dX12_primary_198 rfl (Nat.le_of_ble_eq_true rfl) (by omega) rfl (Nat.le_of_ble_eq_true rfl) (goOn1_M (s := mI (mI s 27 2) 28 (s.1 24)) (by omega) hft.ne) ?_
          rintro _ _ ⟨rfl, rfl⟩
          refine MV.vret dX12_primary_201 rfl ?_
          exact ⟨rfl, (frQ.rf.i (by decide)).i (by decide), Or.inl hft⟩
      · skip
        have hv9 : ¬ s.1 26 ≤ 9999 := fun z => hv (hnr.1.mp z)
        have hft : FT b n F m (mkS C q L W o) (mI (mI s 27 2) 28 (s.1 24)) := FT.w hrel (by decide) (by obtain ⟨G, rfl⟩ : ∃ G, F = G + 1 := ⟨F - 1, by omega⟩; exact E_big h3 hv)
        refine MV.aload_n dX12_primary_0 rfl ?_
        refine MV.getf 27 fl_X12_202 dX12_primary_1 (by decide) rfl ?_
        refine MV.if_eq 8 dX12_primary_4 (by decide) (fun _ => ?_) (fun z => absurd (hrel.2.2.2.2.1) z)
        refine MV.aload_n dX12_primary_8 rfl ?_
        refine MV.bipush (v := 40) dX12_primary_9 (by decide) ?_
        refine MV.cV1 yoX12_isSign ml_X12_258 im_X12_isSign se_X12_isSign dX12_primary_11 rfl (Nat.le_of_ble_eq_true rfl) (by omega) rfl (Nat.le_of_ble_eq_true rfl) (isSign_M (by omega)) (MV.rdK ?_)
        refine MV.eqi 0 (bI_df (fun z => hq ((hrel.isS (j := 1) (c := 40) (k := 31) (by decide) (by decide) (by decide)).mp z))) ?_
        refine MV.if_eq 101 dX12_primary_14 (by decide) (fun _ => ?_) (fun z => absurd (rfl) z)
        refine MV.aload_n dX12_primary_101 rfl ?_
        refine MV.getf 25 fl_X12_167 dX12_primary_102 (by decide) rfl ?_
        refine MV.iconst (v := 2) dX12_primary_105 (by decide) ?_
        refine MV.icmp_ne 113 dX12_primary_106 (by decide) (fun z => absurd (hso2) z) (fun _ => ?_)
        refine MV.iconst (v := 1) dX12_primary_109 (by decide) ?_
        refine MV.goto 114 dX12_primary_110 (by decide) ?_
        refine MV.istore_n dX12_primary_114 (by decide) rfl ?_
        refine MV.iload_n dX12_primary_115 rfl ?_
        refine MV.if_eq 137 dX12_primary_116 (by decide) (fun z => absurd z (show ¬ (1 : Int32) = 0 by decide)) (fun _ => ?_)
        refine MV.aload_n dX12_primary_119 rfl ?_
        refine MV.getf 26 fl_X12_177 dX12_primary_120 (by decide) rfl ?_
        refine MV.sipush (v := 9999) dX12_primary_123 (by decide) ?_
        refine MV.icmp_le 137 dX12_primary_126 (by decide) (fun z => absurd z (hv9)) (fun _ => ?_)
        refine MV.aload_n dX12_primary_129 rfl ?_
        refine MV.iconst (v := 2) dX12_primary_130 (by decide) ?_
        refine MV.cV1 yoX12_wrong ml_X12_211 im_X12_wrong se_X12_wrong dX12_primary_131 rfl (Nat.le_of_ble_eq_true rfl) (by omega) rfl (Nat.le_of_ble_eq_true rfl) (wrong0_M (by omega) hrel.2.2.2.2.1) ?_
        rintro _ _ ⟨rfl, rfl⟩
        refine MV.goto 162 dX12_primary_134 (by decide) ?_
        refine MV.aload_n dX12_primary_162 rfl ?_
        refine MV.cV0 yoX12_knot ml_X12_276 im_X12_knot se_X12_knot dX12_primary_163 rfl (Nat.le_of_ble_eq_true rfl) (by omega) rfl (Nat.le_of_ble_eq_true rfl) (knot1_M (s := mI (mI s 27 2) 28 (s.1 24)) (by omega) hft.ne) ?_
        rintro _ _ ⟨rfl, rfl⟩
        refine MV.aload_n dX12_primary_166 rfl ?_
        refine MV.iload_n dX12_primary_167 rfl ?_
        refine MV.if_eq 175 dX12_primary_168 (by decide) (fun z => absurd z (show ¬ (1 : Int32) = 0 by decide)) (fun _ => ?_)
        refine MV.iconst (v := 0) dX12_primary_171 (by decide) ?_
        refine MV.goto 176 dX12_primary_172 (by decide) ?_
        refine MV.iload_n dX12_primary_176 rfl ?_
        refine MV.if_eq 187 dX12_primary_177 (by decide) (fun z => absurd z (show ¬ (1 : Int32) = 0 by decide)) (fun _ => ?_)
        refine MV.aload_n dX12_primary_180 rfl ?_
        refine MV.getf 26 fl_X12_177 dX12_primary_181 (by decide) rfl ?_
        refine MV.goto 194 dX12_primary_184 (by decide) ?_
        refine MV.cV2 yoX12_puts ml_X12_279 im_X12_puts se_X12_puts dX12_primary_194 rfl (Nat.le_of_ble_eq_true rfl) (by omega) rfl (Nat.le_of_ble_eq_true rfl) (puts1_M (s := mI (mI s 27 2) 28 (s.1 24)) (by omega) hft.ne) ?_
        rintro _ _ ⟨rfl, rfl⟩
        refine MV.aload_n dX12_primary_197 rfl ?_
        refine MV.cV0 yoX12_goOn ml_X12_225 im_X12_goOn se_X12_goOn dX12_primary_198 rfl (Nat.le_of_ble_eq_true rfl) (by omega) rfl (Nat.le_of_ble_eq_true rfl) (goOn1_M (s := mI (mI s 27 2) 28 (s.1 24)) (by omega) hft.ne) ?_
        rintro _ _ ⟨rfl, rfl⟩
        refine MV.vret dX12_primary_201 rfl ?_
        exact ⟨rfl, (frQ.rf.i (by decide)).i (by decide), Or.inl hft⟩
    · skip
      have hso2 : ¬ s.1 25 = 2 := fun z => h3 ((kR_num hrel.1.2.2).mp z)
      have hkl := kR_leaf hrel.1.2.2
      by_cases hl : ¬ q.2.1 < 11 ∧ q.2.1 ≤ 17
      · skip
        obtain ⟨hso0, hv14⟩ := hkl.1.mpr hl
        have hlf : leafB q := Or.inr hl
        by_cases hk : L.1 0 < 64
        · skip
          have hk64 : ¬ s.1 32 = 64 := by rw [hrel.2.2.2.2.2.1]; intro z; rw [z] at hk; exact absurd hk (by decide)
          have hp64 := (okL_knot ok hk).2.2
          have hkn : knR q.2.1 q.2.2.2 1 (s.1 26 - 14) := hkl.2 hl _
          refine MV.aload_n dX12_primary_0 rfl ?_
          refine MV.getf 27 fl_X12_202 dX12_primary_1 (by decide) rfl ?_
          refine MV.if_eq 8 dX12_primary_4 (by decide) (fun _ => ?_) (fun z => absurd (hrel.2.2.2.2.1) z)
          refine MV.aload_n dX12_primary_8 rfl ?_
          refine MV.bipush (v := 40) dX12_primary_9 (by decide) ?_
          refine MV.cV1 yoX12_isSign ml_X12_258 im_X12_isSign se_X12_isSign dX12_primary_11 rfl (Nat.le_of_ble_eq_true rfl) (by omega) rfl (Nat.le_of_ble_eq_true rfl) (isSign_M (by omega)) (MV.rdK ?_)
          refine MV.eqi 0 (bI_df (fun z => hq ((hrel.isS (j := 1) (c := 40) (k := 31) (by decide) (by decide) (by decide)).mp z))) ?_
          refine MV.if_eq 101 dX12_primary_14 (by decide) (fun _ => ?_) (fun z => absurd (rfl) z)
          refine MV.aload_n dX12_primary_101 rfl ?_
          refine MV.getf 25 fl_X12_167 dX12_primary_102 (by decide) rfl ?_
          refine MV.iconst (v := 2) dX12_primary_105 (by decide) ?_
          refine MV.icmp_ne 113 dX12_primary_106 (by decide) (fun _ => ?_) (fun z => absurd z (hso2))
          refine MV.iconst (v := 0) dX12_primary_113 (by decide) ?_
          refine MV.istore_n dX12_primary_114 (by decide) rfl ?_
          refine MV.iload_n dX12_primary_115 rfl ?_
          refine MV.if_eq 137 dX12_primary_116 (by decide) (fun _ => ?_) (fun z => absurd (rfl) z)
          refine MV.iload_n dX12_primary_137 rfl ?_
          refine MV.if_ne 162 dX12_primary_138 (by decide) (fun z => absurd (rfl) z) (fun _ => ?_)
          refine MV.aload_n dX12_primary_141 rfl ?_
          refine MV.getf 25 fl_X12_167 dX12_primary_142 (by decide) rfl ?_
          refine MV.if_ne 157 dX12_primary_145 (by decide) (fun z => absurd (hso0) z) (fun _ => ?_)
          refine MV.aload_n dX12_primary_148 rfl ?_
          refine MV.getf 26 fl_X12_177 dX12_primary_149 (by decide) rfl ?_
          refine MV.bipush (v := 14) dX12_primary_152 (by decide) ?_
          refine MV.icmp_ge 162 dX12_primary_154 (by decide) (fun _ => ?_) (fun z => absurd (hv14) z)
          refine MV.aload_n dX12_primary_162 rfl ?_
          refine MV.cV0 yoX12_knot ml_X12_276 im_X12_knot se_X12_knot dX12_primary_163 rfl (Nat.le_of_ble_eq_true rfl) (by omega) rfl (Nat.le_of_ble_eq_true rfl) (knot0_M (by omega) hrel.2.2.2.2.1 hk64) ?_
          rintro _ _ ⟨rfl, rfl⟩
          refine MV.aload_n dX12_primary_166 rfl ?_
          refine MV.iload_n dX12_primary_167 rfl ?_
          refine MV.if_eq 175 dX12_primary_168 (by decide) (fun _ => ?_) (fun z => absurd (rfl) z)
          refine MV.iconst (v := 1) dX12_primary_175 (by decide) ?_
          refine MV.iload_n dX12_primary_176 rfl ?_
          refine MV.if_eq 187 dX12_primary_177 (by decide) (fun _ => ?_) (fun z => absurd (rfl) z)
          refine MV.aload_n dX12_primary_187 rfl ?_
          refine MV.getf 26 fl_X12_177 dX12_primary_188 (by decide) rfl ?_
          refine MV.bipush (v := 14) dX12_primary_191 (by decide) ?_
          refine MV.isub dX12_primary_193 ?_
          refine MV.cV2 yoX12_puts ml_X12_279 im_X12_puts se_X12_puts dX12_primary_194 rfl (Nat.le_of_ble_eq_true rfl) (by omega) rfl (Nat.le_of_ble_eq_true rfl) (puts0_M (s := mI s 32 (s.1 32 + 1)) (p := nat (L.1 1)) (by omega) hrel.2.2.2.2.1 (hrel.2.2.2.2.2.2.2.1.trans ok.2.1.1) hp64) ?_
          rintro _ _ ⟨rfl, rfl⟩
          refine MV.aload_n dX12_primary_197 rfl ?_
          refine MV.cV0 yoX12_goOn ml_X12_225 im_X12_goOn se_X12_goOn dX12_primary_198 rfl (Nat.le_of_ble_eq_true rfl) (by omega) rfl (Nat.le_of_ble_eq_true rfl) ((hrel.knot.put (v := q.2.2.2) hp64 hkn).goOn (by omega) hn hbb) ?_
          rintro _ s4 ⟨rfl, hk4, hr4⟩
          refine MV.vret dX12_primary_201 rfl ?_
          exact ⟨rfl, ((frQ.rf.i (s1 := s) (j := 32) (by decide)).p).k2 hk4, Or.inr ⟨tokN b n q, pl (lKnot L) q.2.1 q.2.2.2, pl (lKnot L) q.2.1 q.2.2.2, W, F - 1, PR.leaf hlf hk hF ok hrel.2.1, stO7, hr4⟩⟩
        · skip
          have hft : FT b n F m (mkS C q L W o) (mI (mI s 27 2) 28 (s.1 24)) := FT.w hrel (by decide) (by obtain ⟨G, rfl⟩ : ∃ G, F = G + 1 := ⟨F - 1, by omega⟩; exact E_leaf_no hlf hk)
          refine MV.aload_n dX12_primary_0 rfl ?_
          refine MV.getf 27 fl_X12_202 dX12_primary_1 (by decide) rfl ?_
          refine MV.if_eq 8 dX12_primary_4 (by decide) (fun _ => ?_) (fun z => absurd (hrel.2.2.2.2.1) z)
          refine MV.aload_n dX12_primary_8 rfl ?_
          refine MV.bipush (v := 40) dX12_primary_9 (by decide) ?_
          refine MV.cV1 yoX12_isSign ml_X12_258 im_X12_isSign se_X12_isSign dX12_primary_11 rfl (Nat.le_of_ble_eq_true rfl) (by omega) rfl (Nat.le_of_ble_eq_true rfl) (isSign_M (by omega)) (MV.rdK ?_)
          refine MV.eqi 0 (bI_df (fun z => hq ((hrel.isS (j := 1) (c := 40) (k := 31) (by decide) (by decide) (by decide)).mp z))) ?_
          refine MV.if_eq 101 dX12_primary_14 (by decide) (fun _ => ?_) (fun z => absurd (rfl) z)
          refine MV.aload_n dX12_primary_101 rfl ?_
          refine MV.getf 25 fl_X12_167 dX12_primary_102 (by decide) rfl ?_
          refine MV.iconst (v := 2) dX12_primary_105 (by decide) ?_
          refine MV.icmp_ne 113 dX12_primary_106 (by decide) (fun _ => ?_) (fun z => absurd z (hso2))
          refine MV.iconst (v := 0) dX12_primary_113 (by decide) ?_
          refine MV.istore_n dX12_primary_114 (by decide) rfl ?_
          refine MV.iload_n dX12_primary_115 rfl ?_
          refine MV.if_eq 137 dX12_primary_116 (by decide) (fun _ => ?_) (fun z => absurd (rfl) z)
          refine MV.iload_n dX12_primary_137 rfl ?_
          refine MV.if_ne 162 dX12_primary_138 (by decide) (fun z => absurd (rfl) z) (fun _ => ?_)
          refine MV.aload_n dX12_primary_141 rfl ?_
          refine MV.getf 25 fl_X12_167 dX12_primary_142 (by decide) rfl ?_
          refine MV.if_ne 157 dX12_primary_145 (by decide) (fun z => absurd (hso0) z) (fun _ => ?_)
          refine MV.aload_n dX12_primary_148 rfl ?_
          refine MV.getf 26 fl_X12_177 dX12_primary_149 (by decide) rfl ?_
          refine MV.bipush (v := 14) dX12_primary_152 (by decide) ?_
          refine MV.icmp_ge 162 dX12_primary_154 (by decide) (fun _ => ?_) (fun z => absurd (hv14) z)
          refine MV.aload_n dX12_primary_162 rfl ?_
          refine MV.cV0 yoX12_knot ml_X12_276 im_X12_knot se_X12_knot dX12_primary_163 rfl (Nat.le_of_ble_eq_true rfl) (by omega) rfl (Nat.le_of_ble_eq_true rfl) (knotF_M (by omega) hrel.2.2.2.2.1 (hrel.2.2.2.2.2.1.trans (knot_ge ok.1 hk))) ?_
          rintro _ _ ⟨rfl, rfl⟩
          refine MV.aload_n dX12_primary_166 rfl ?_
          refine MV.iload_n dX12_primary_167 rfl ?_
          refine MV.if_eq 175 dX12_primary_168 (by decide) (fun _ => ?_) (fun z => absurd (rfl) z)
          refine MV.iconst (v := 1) dX12_primary_175 (by decide) ?_
          refine MV.iload_n dX12_primary_176 rfl ?_
          refine MV.if_eq 187 dX12_primary_177 (by decide) (fun _ => ?_) (fun z => absurd (rfl) z)
          refine MV.aload_n dX12_primary_187 rfl ?_
          refine MV.getf 26 fl_X12_177 dX12_primary_188 (by decide) rfl ?_
          refine MV.bipush (v := 14) dX12_primary_191 (by decide) ?_
          refine MV.isub dX12_primary_193 ?_
          refine MV.cV2 yoX12_puts ml_X12_279 im_X12_puts se_X12_puts dX12_primary_194 rfl (Nat.le_of_ble_eq_true rfl) (by omega) rfl (Nat.le_of_ble_eq_true rfl) (puts1_M (s := mI (mI s 27 2) 28 (s.1 24)) (by omega) hft.ne) ?_
          rintro _ _ ⟨rfl, rfl⟩
          refine MV.aload_n dX12_primary_197 rfl ?_
          refine MV.cV0 yoX12_goOn ml_X12_225 im_X12_goOn se_X12_goOn dX12_primary_198 rfl (Nat.le_of_ble_eq_true rfl) (by omega) rfl (Nat.le_of_ble_eq_true rfl) (goOn1_M (s := mI (mI s 27 2) 28 (s.1 24)) (by omega) hft.ne) ?_
          rintro _ _ ⟨rfl, rfl⟩
          refine MV.vret dX12_primary_201 rfl ?_
          exact ⟨rfl, (frQ.rf.i (by decide)).i (by decide), Or.inl hft⟩
      · skip
        have hbw : ¬ (s.1 25 = 0 ∧ 14 ≤ s.1 26) := fun z => hl (hkl.1.mp z)
        have hft : FT b n F m (mkS C q L W o) (mI (mI s 27 1) 28 (s.1 24)) := FT.w hrel (by decide) (by obtain ⟨G, rfl⟩ : ∃ G, F = G + 1 := ⟨F - 1, by omega⟩; exact E_bad hq (fun z => by cases m with | false => rfl | true => exact absurd z (hm2 (by decide) rfl)) h3 (Classical.byContradiction fun z => hl ⟨fun y => z (Or.inl y), Classical.byContradiction fun y => z (Or.inr y)⟩))
        refine MV.aload_n dX12_primary_0 rfl ?_
        refine MV.getf 27 fl_X12_202 dX12_primary_1 (by decide) rfl ?_
        refine MV.if_eq 8 dX12_primary_4 (by decide) (fun _ => ?_) (fun z => absurd (hrel.2.2.2.2.1) z)
        refine MV.aload_n dX12_primary_8 rfl ?_
        refine MV.bipush (v := 40) dX12_primary_9 (by decide) ?_
        refine MV.cV1 yoX12_isSign ml_X12_258 im_X12_isSign se_X12_isSign dX12_primary_11 rfl (Nat.le_of_ble_eq_true rfl) (by omega) rfl (Nat.le_of_ble_eq_true rfl) (isSign_M (by omega)) (MV.rdK ?_)
        refine MV.eqi 0 (bI_df (fun z => hq ((hrel.isS (j := 1) (c := 40) (k := 31) (by decide) (by decide) (by decide)).mp z))) ?_
        refine MV.if_eq 101 dX12_primary_14 (by decide) (fun _ => ?_) (fun z => absurd (rfl) z)
        refine MV.aload_n dX12_primary_101 rfl ?_
        refine MV.getf 25 fl_X12_167 dX12_primary_102 (by decide) rfl ?_
        refine MV.iconst (v := 2) dX12_primary_105 (by decide) ?_
        refine MV.icmp_ne 113 dX12_primary_106 (by decide) (fun _ => ?_) (fun z => absurd z (hso2))
        refine MV.iconst (v := 0) dX12_primary_113 (by decide) ?_
        refine MV.istore_n dX12_primary_114 (by decide) rfl ?_
        refine MV.iload_n dX12_primary_115 rfl ?_
        refine MV.if_eq 137 dX12_primary_116 (by decide) (fun _ => ?_) (fun z => absurd (rfl) z)
        refine MV.iload_n dX12_primary_137 rfl ?_
        refine MV.if_ne 162 dX12_primary_138 (by decide) (fun z => absurd (rfl) z) (fun _ => ?_)
        refine MV.aload_n dX12_primary_141 rfl ?_
        refine MV.getf 25 fl_X12_167 dX12_primary_142 (by decide) rfl ?_
        refine MV.if_ne 157 dX12_primary_145 (by decide) (fun c145 => ?_) (fun c145 => ?_)
        · skip
          refine MV.aload_n dX12_primary_157 rfl ?_
          refine MV.iconst (v := 1) dX12_primary_158 (by decide) ?_
          refine MV.cV1 yoX12_wrong ml_X12_211 im_X12_wrong se_X12_wrong dX12_primary_159 rfl (Nat.le_of_ble_eq_true rfl) (by omega) rfl (Nat.le_of_ble_eq_true rfl) (wrong0_M (by omega) hrel.2.2.2.2.1) ?_
          rintro _ _ ⟨rfl, rfl⟩
          refine MV.aload_n dX12_primary_162 rfl ?_
          refine MV.cV0 yoX12_knot ml_X12_276 im_X12_knot se_X12_knot dX12_primary_163 rfl (Nat.le_of_ble_eq_true rfl) (by omega) rfl (Nat.le_of_ble_eq_true rfl) (knot1_M (s := mI (mI s 27 1) 28 (s.1 24)) (by omega) hft.ne) ?_
          rintro _ _ ⟨rfl, rfl⟩
          refine MV.aload_n dX12_primary_166 rfl ?_
          refine MV.iload_n dX12_primary_167 rfl ?_
          refine MV.if_eq 175 dX12_primary_168 (by decide) (fun _ => ?_) (fun z => absurd (rfl) z)
          refine MV.iconst (v := 1) dX12_primary_175 (by decide) ?_
          refine MV.iload_n dX12_primary_176 rfl ?_
          refine MV.if_eq 187 dX12_primary_177 (by decide) (fun _ => ?_) (fun z => absurd (rfl) z)
          refine MV.aload_n dX12_primary_187 rfl ?_
          refine MV.getf 26 fl_X12_177 dX12_primary_188 (by decide) rfl ?_
          refine MV.bipush (v := 14) dX12_primary_191 (by decide) ?_
          refine MV.isub dX12_primary_193 ?_
          refine MV.cV2 yoX12_puts ml_X12_279 im_X12_puts se_X12_puts dX12_primary_194 rfl (Nat.le_of_ble_eq_true rfl) (by omega) rfl (Nat.le_of_ble_eq_true rfl) (puts1_M (s := mI (mI s 27 1) 28 (s.1 24)) (by omega) hft.ne) ?_
          rintro _ _ ⟨rfl, rfl⟩
          refine MV.aload_n dX12_primary_197 rfl ?_
          refine MV.cV0 yoX12_goOn ml_X12_225 im_X12_goOn se_X12_goOn dX12_primary_198 rfl (Nat.le_of_ble_eq_true rfl) (by omega) rfl (Nat.le_of_ble_eq_true rfl) (goOn1_M (s := mI (mI s 27 1) 28 (s.1 24)) (by omega) hft.ne) ?_
          rintro _ _ ⟨rfl, rfl⟩
          refine MV.vret dX12_primary_201 rfl ?_
          exact ⟨rfl, (frQ.rf.i (by decide)).i (by decide), Or.inl hft⟩
        · skip
          refine MV.aload_n dX12_primary_148 rfl ?_
          refine MV.getf 26 fl_X12_177 dX12_primary_149 (by decide) rfl ?_
          refine MV.bipush (v := 14) dX12_primary_152 (by decide) ?_
          refine MV.icmp_ge 162 dX12_primary_154 (by decide) (fun z => absurd z (fun z => hbw ⟨c145, z⟩)) (fun _ => ?_)
          refine MV.aload_n dX12_primary_157 rfl ?_
          refine MV.iconst (v := 1) dX12_primary_158 (by decide) ?_
          refine MV.cV1 yoX12_wrong ml_X12_211 im_X12_wrong se_X12_wrong dX12_primary_159 rfl (Nat.le_of_ble_eq_true rfl) (by omega) rfl (Nat.le_of_ble_eq_true rfl) (wrong0_M (by omega) hrel.2.2.2.2.1) ?_
          rintro _ _ ⟨rfl, rfl⟩
          refine MV.aload_n dX12_primary_162 rfl ?_
          refine MV.cV0 yoX12_knot ml_X12_276 im_X12_knot se_X12_knot dX12_primary_163 rfl (Nat.le_of_ble_eq_true rfl) (by omega) rfl (Nat.le_of_ble_eq_true rfl) (knot1_M (s := mI (mI s 27 1) 28 (s.1 24)) (by omega) hft.ne) ?_
          rintro _ _ ⟨rfl, rfl⟩
          refine MV.aload_n dX12_primary_166 rfl ?_
          refine MV.iload_n dX12_primary_167 rfl ?_
          refine MV.if_eq 175 dX12_primary_168 (by decide) (fun _ => ?_) (fun z => absurd (rfl) z)
          refine MV.iconst (v := 1) dX12_primary_175 (by decide) ?_
          refine MV.iload_n dX12_primary_176 rfl ?_
          refine MV.if_eq 187 dX12_primary_177 (by decide) (fun _ => ?_) (fun z => absurd (rfl) z)
          refine MV.aload_n dX12_primary_187 rfl ?_
          refine MV.getf 26 fl_X12_177 dX12_primary_188 (by decide) rfl ?_
          refine MV.bipush (v := 14) dX12_primary_191 (by decide) ?_
          refine MV.isub dX12_primary_193 ?_
          refine MV.cV2 yoX12_puts ml_X12_279 im_X12_puts se_X12_puts dX12_primary_194 rfl (Nat.le_of_ble_eq_true rfl) (by omega) rfl (Nat.le_of_ble_eq_true rfl) (puts1_M (s := mI (mI s 27 1) 28 (s.1 24)) (by omega) hft.ne) ?_
          rintro _ _ ⟨rfl, rfl⟩
          refine MV.aload_n dX12_primary_197 rfl ?_
          refine MV.cV0 yoX12_goOn ml_X12_225 im_X12_goOn se_X12_goOn dX12_primary_198 rfl (Nat.le_of_ble_eq_true rfl) (by omega) rfl (Nat.le_of_ble_eq_true rfl) (goOn1_M (s := mI (mI s 27 1) 28 (s.1 24)) (by omega) hft.ne) ?_
          rintro _ _ ⟨rfl, rfl⟩
          refine MV.vret dX12_primary_201 rfl ?_
          exact ⟨rfl, (frQ.rf.i (by decide)).i (by decide), Or.inl hft⟩
