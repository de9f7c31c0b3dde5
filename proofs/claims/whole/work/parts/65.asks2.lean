/-! The model: small questions, walked -/
theorem noMan {T : Tx} {f : Nat → Nat → Int32} {x : Int32} (hT : relT T f) (h : bI (isManB (f 3 0) x) = 0) : ¬ isManB (T.1.1 0) x = true := by
  rw [hT.1.2.1, bI_f h]
  decide
theorem yesMan {T : Tx} {f : Nat → Nat → Int32} {x : Int32} (hT : relT T f) (h : ¬ bI (isManB (f 3 0) x) = 0) : isManB (T.1.1 0) x = true ∧ ∃ p, x = nI p ∧ p < nat (T.1.1 0) ∧ p < 6 ∧ nat (nI p) = p := by
  have h1 := bI_t h
  obtain ⟨p, h2, h3, h4⟩ := isMan_of hT h1
  exact ⟨by rw [hT.1.2.1]; exact h1, p, h2, h3, h4, nI_clamp (by omega)⟩
set_option maxRecDepth 100000 in
theorem found_V {d n0 : Nat} {κ : Kd} (hd : 1 ≤ d) {h : Hp} {b N n : Nat} {f : Nat → Int32} {x R : Int32} (ha : h b = some (.inl (0, N, .inl f))) (hn : n ≤ N) (hN : N < 2147483648) (hR : findF f x n 0 = R) : V MX12_found (d, 0, 0, n0, κ) 0 0 h 0 [some (.ref b), some (.int 0), some (.int (nI n)), some (.int x), none] [] (Rd h (.int R)) := by
  refine V.iconst (v := nI 0) dX12_found_0 (by decide) ?_
  refine V.istore dX12_found_1 (by decide) rfl ?_
  suffices hL : ∀ (k i : Nat), i + k = n → findF f x k i = R → V MX12_found (d, 0, 0, n0, κ) 0 0 h 3 [some (.ref b), some (.int 0), some (.int (nI n)), some (.int x), some (.int (nI i))] [] (Rd h (.int R)) from hL n 0 (by omega) hR
  intro k
  induction k with
  | zero =>
    intro i hik hv
    refine V.iload dX12_found_3 rfl ?_
    refine V.iload_n dX12_found_5 rfl ?_
    refine V.icmp_ge 28 dX12_found_6 (by decide) (fun _ => ?_) (fun z => absurd (nI_le (by omega) (by omega)) z)
    refine V.iconst (v := (-1)) dX12_found_28 (by decide) ?_
    refine V.iret dX12_found_29 rfl ?_
    exact ⟨by rw [← hv]; rfl, rfl⟩
  | succ k ih =>
    intro i hik hv
    refine V.iload dX12_found_3 rfl ?_
    refine V.iload_n dX12_found_5 rfl ?_
    refine V.icmp_ge 28 dX12_found_6 (by decide) (fun z => absurd z (nI_ge (by omega) (by omega))) (fun _ => ?_)
    refine V.aload_n dX12_found_9 rfl ?_
    refine V.iload_n dX12_found_10 rfl ?_
    refine V.iload dX12_found_11 rfl ?_
    refine V.iadd dX12_found_13 ?_
    refine V.ialdN dX12_found_14 ha (Int32.zero_add _) (by omega) (by omega) ?_
    refine V.iload_n dX12_found_15 rfl ?_
    refine V.icmp_ne 22 dX12_found_16 (by decide) (fun c => ?_) (fun c => ?_)
    · refine V.iinc (v := 1) dX12_found_22 rfl (by decide) (by decide) rfl ?_
      refine V.goto 3 dX12_found_25 (by decide) ?_
      refine V.weak [some (.ref b), some (.int 0), some (.int (nI n)), some (.int x), some (.int (nI (i + 1)))] (by simp [leL, sto1, sto2, k2c, nI_1]) ?_
      exact ih (i + 1) (by omega) (by rw [← hv, findF, if_neg c])
    · refine V.iload dX12_found_19 rfl ?_
      refine V.iret dX12_found_21 rfl ?_
      exact ⟨by rw [← hv, findF, if_pos c], rfl⟩
theorem tW0 {T : Tx} {f : Nat → Nat → Int32} {k p : Nat} {c : St} {w : Bool} (hT : relT T f) (hk : k < 3) (h : hasB (f 16 k) (f 17 k) = false) : tW T k c p w = ERR := by
  obtain ⟨g1, g2, g3, g4, g5, g6, g7⟩ := hT.2.2.2.2.2.2.2.2.2 k hk
  unfold tW
  rw [g1, g2, show nat (f 17 k) - nat (f 16 k) = 0 by
    have : f 17 k ≤ f 16 k := by unfold hasB at h; simpa using h
    rw [g3.1, g4.1] at this
    have := (nI_leI (by have := g4.2; omega) (by have := g3.2; omega)).mp this
    omega]
  rfl
theorem hasB_lt {T : Tx} {f : Nat → Nat → Int32} {k : Nat} (hT : relT T f) (hk : k < 3) (h : hasB (f 16 k) (f 17 k) = true) : nat (f 16 k) < nat (f 17 k) := by
  obtain ⟨g1, g2, g3, g4, -⟩ := hT.2.2.2.2.2.2.2.2.2 k hk
  unfold hasB at h
  have h : ¬ f 17 k ≤ f 16 k := of_decide_eq_true h
  rw [g3.1, g4.1] at h
  exact Nat.not_le.mp fun z => h (nI_le z (by have := g3.2; omega))
set_option maxRecDepth 100000 in
set_option maxHeartbeats 1000000 in
theorem june_M {d n0 a : Nat} {κ : Kd} {h0 : Hp} (hd : 3 ≤ d) {T : Tx} {s c : St} (hqu : qui s) (hR : Rm T s 0 c) {x y : Int32} : MV MX12_june (d, 0, 0, n0, κ) a h0 s 0 [some (.ref a), some (.int (x)), some (.int (y))] [] (fun v s' => v = some (.int (aJune T c x y)) ∧ frX s s') := by
  refine MV.aload_n dX12_june_0 rfl ?_
  refine MV.iconst (v := 0) dX12_june_1 (by decide) ?_
  refine MV.putf 0 fl_X12_148 dX12_june_2 (by decide) rfl (rfl) (rfl) C12_s0 ?_
  refine MV.aload_n dX12_june_5 rfl ?_
  refine MV.iload_n dX12_june_6 rfl ?_
  refine MV.cV1 yoX12_isMan ml_X12_425 im_X12_isMan se_X12_isMan dX12_june_7 rfl (Nat.le_of_ble_eq_true rfl) (by omega) rfl (Nat.le_of_ble_eq_true rfl) (mIsMan_M (by omega)) (MV.rdK ?_)
  refine MV.if_eq 20 dX12_june_10 (by decide) (fun c10 => ?_) (fun c10 => ?_)
  · skip
    have hno := noMan hR.1 c10
    refine MV.iconst (v := (-1)) dX12_june_20 (by decide) ?_
    refine MV.iret dX12_june_21 rfl ?_
    first
    | exact ⟨by rw [aJune, if_neg (fun z => hno z.1)], frX.z⟩
    | exact ⟨by rw [aJune, if_neg (fun z => by rw [bI_f c17] at z; cases z.2)], frX.z⟩
  · skip
    obtain ⟨hman, p, rfl, hp, hp6, hnat⟩ := yesMan hR.1 c10
    refine MV.iload_n dX12_june_13 rfl ?_
    refine MV.cS1 yoX12_isInch ml_X12_428 st_X12_isInch dX12_june_14 (Nat.le_of_ble_eq_true rfl) (by omega) rfl (Nat.le_of_ble_eq_true rfl) (fun h H => mIsInch_V (by omega)) ?_
    refine MV.if_ne 22 dX12_june_17 (by decide) (fun c17 => ?_) (fun c17 => ?_)
    · skip
      have hin := bI_t c17
      obtain ⟨i, rfl, hi⟩ := isInch_of hin
      have hj := hR.1.2.1.1
      refine MV.aload_n dX12_june_22 rfl ?_
      refine MV.iload_n dX12_june_23 rfl ?_
      refine MV.iload_n dX12_june_24 rfl ?_
      refine MV.cV2 yoX12_isJune ml_X12_431 im_X12_isJune se_X12_isJune dX12_june_25 rfl (Nat.le_of_ble_eq_true rfl) (by omega) rfl (Nat.le_of_ble_eq_true rfl) (isJune_M (n := nat (s.2.1 3 1)) (by omega) hj.1 (by have := hj.2; omega) rfl) (MV.rdK ?_)
      refine MV.if_ne 35 dX12_june_28 (by decide) (fun c28 => ?_) (fun c28 => ?_)
      · skip
        have c28 := bI_t c28
        refine MV.aload_n dX12_june_35 rfl ?_
        refine MV.iconst (v := nI 0) dX12_june_36 (by decide) ?_
        refine MV.iload_n dX12_june_37 rfl ?_
        refine MV.iload_n dX12_june_38 rfl ?_
        refine MV.cV3 yoX12_isLeft ml_X12_346 im_X12_isLeft se_X12_isLeft dX12_june_39 rfl (Nat.le_of_ble_eq_true rfl) (by omega) rfl (Nat.le_of_ble_eq_true rfl) (mIsL_M (r := 0) (by omega) (by decide) hp6) (MV.rdK ?_)
        refine MV.if_eq 49 dX12_june_42 (by decide) (fun c42 => ?_) (fun c42 => ?_)
        · skip
          have c42 : mIsL s 0 p (nI i) = false := bI_f c42
          refine MV.iconst (v := 1) dX12_june_49 (by decide) ?_
          refine MV.iret dX12_june_50 rfl ?_
          have hJ := june_iff hR.1 hp6 hi
          first
          | exact ⟨by rw [aJune, if_pos ⟨hman, hin⟩, hnat, if_neg (by rw [hJ]; exact c28)], frX.z⟩
          | exact ⟨by rw [aJune, if_pos ⟨hman, hin⟩, hnat, if_pos (by rw [hJ]; exact c28), if_pos (by rw [← hR.2.1.isl hR.1 hp]; exact c42)], frX.z⟩
          | exact ⟨by rw [aJune, if_pos ⟨hman, hin⟩, hnat, if_pos (by rw [hJ]; exact c28), if_neg (by rw [← hR.2.1.isl hR.1 hp, c42]; decide)], frX.z⟩
        · skip
          have c42 : mIsL s 0 p (nI i) = true := bI_t c42
          refine MV.iconst (v := 2) dX12_june_45 (by decide) ?_
          refine MV.goto 50 dX12_june_46 (by decide) ?_
          refine MV.iret dX12_june_50 rfl ?_
          have hJ := june_iff hR.1 hp6 hi
          first
          | exact ⟨by rw [aJune, if_pos ⟨hman, hin⟩, hnat, if_neg (by rw [hJ]; exact c28)], frX.z⟩
          | exact ⟨by rw [aJune, if_pos ⟨hman, hin⟩, hnat, if_pos (by rw [hJ]; exact c28), if_pos (by rw [← hR.2.1.isl hR.1 hp]; exact c42)], frX.z⟩
          | exact ⟨by rw [aJune, if_pos ⟨hman, hin⟩, hnat, if_pos (by rw [hJ]; exact c28), if_neg (by rw [← hR.2.1.isl hR.1 hp, c42]; decide)], frX.z⟩
      · skip
        have c28 : ¬ isJF (s.2.1 6) (s.2.1 7) (nI p) (nI i) (nat (s.2.1 3 1)) 0 = true := by rw [show isJF (s.2.1 6) (s.2.1 7) (nI p) (nI i) (nat (s.2.1 3 1)) 0 = false from bI_f c28]; decide
        refine MV.iconst (v := 0) dX12_june_31 (by decide) ?_
        refine MV.goto 50 dX12_june_32 (by decide) ?_
        refine MV.iret dX12_june_50 rfl ?_
        have hJ := june_iff hR.1 hp6 hi
        first
        | exact ⟨by rw [aJune, if_pos ⟨hman, hin⟩, hnat, if_neg (by rw [hJ]; exact c28)], frX.z⟩
        | exact ⟨by rw [aJune, if_pos ⟨hman, hin⟩, hnat, if_pos (by rw [hJ]; exact c28), if_pos (by rw [← hR.2.1.isl hR.1 hp]; exact c42)], frX.z⟩
        | exact ⟨by rw [aJune, if_pos ⟨hman, hin⟩, hnat, if_pos (by rw [hJ]; exact c28), if_neg (by rw [← hR.2.1.isl hR.1 hp, c42]; decide)], frX.z⟩
    · skip
      refine MV.iconst (v := (-1)) dX12_june_20 (by decide) ?_
      refine MV.iret dX12_june_21 rfl ?_
      first
      | exact ⟨by rw [aJune, if_neg (fun z => hno z.1)], frX.z⟩
      | exact ⟨by rw [aJune, if_neg (fun z => by rw [bI_f c17] at z; cases z.2)], frX.z⟩
set_option maxRecDepth 100000 in
set_option maxHeartbeats 1000000 in
theorem lendersQ_M {d n0 a : Nat} {κ : Kd} {h0 : Hp} (hd : 3 ≤ d) {T : Tx} {s c : St} (hqu : qui s) (hR : Rm T s 0 c) {x : Int32} : MV MX12_lenders (d, 0, 0, n0, κ) a h0 s 0 [some (.ref a), some (.int (x))] [] (fun v s' => v = some (.int (aLend T x)) ∧ frX s s') := by
  refine MV.aload_n dX12_lenders_0 rfl ?_
  refine MV.iconst (v := 0) dX12_lenders_1 (by decide) ?_
  refine MV.putf 0 fl_X12_148 dX12_lenders_2 (by decide) rfl (rfl) (rfl) C12_s0 ?_
  refine MV.aload_n dX12_lenders_5 rfl ?_
  refine MV.iload_n dX12_lenders_6 rfl ?_
  refine MV.cV1 yoX12_isMan ml_X12_425 im_X12_isMan se_X12_isMan dX12_lenders_7 rfl (Nat.le_of_ble_eq_true rfl) (by omega) rfl (Nat.le_of_ble_eq_true rfl) (mIsMan_M (by omega)) (MV.rdK ?_)
  refine MV.if_eq 21 dX12_lenders_10 (by decide) (fun c10 => ?_) (fun c10 => ?_)
  · skip
    have hno := noMan hR.1 c10
    refine MV.iconst (v := (-1)) dX12_lenders_21 (by decide) ?_
    refine MV.iret dX12_lenders_22 rfl ?_
    first
    | exact ⟨by rw [aLend, if_neg hno], frX.z⟩
    | exact ⟨by rw [aLend, if_pos hman, hnat, hR.1.2.2.2.2.1.2.2.2 p hp6]; rfl, frX.z⟩
  · skip
    obtain ⟨hman, p, rfl, hp, hp6, hnat⟩ := yesMan hR.1 c10
    refine MV.aload_n dX12_lenders_13 rfl ?_
    refine MV.iload_n dX12_lenders_14 rfl ?_
    refine MV.cV1 yoX12_lendersOf ml_X12_350 im_X12_lendersOf se_X12_lendersOf dX12_lenders_15 rfl (Nat.le_of_ble_eq_true rfl) (by omega) rfl (Nat.le_of_ble_eq_true rfl) (lenders_M (n := nat (s.2.1 3 4)) (by omega) hR.1.2.2.2.2.1.1.1 (by have := hR.1.2.2.2.2.1.1.2; omega)) (MV.rdK ?_)
    refine MV.goto 22 dX12_lenders_18 (by decide) ?_
    refine MV.iret dX12_lenders_22 rfl ?_
    first
    | exact ⟨by rw [aLend, if_neg hno], frX.z⟩
    | exact ⟨by rw [aLend, if_pos hman, hnat, hR.1.2.2.2.2.1.2.2.2 p hp6]; rfl, frX.z⟩
set_option maxRecDepth 100000 in
set_option maxHeartbeats 1000000 in
theorem recallQ_M {d n0 a : Nat} {κ : Kd} {h0 : Hp} (hd : 7 ≤ d) {T : Tx} {s c : St} (hqu : qui s) (hR : Rm T s 0 c) {x : Int32} : MV MX12_recall (d, 0, 0, n0, κ) a h0 s 0 [some (.ref a), some (.int (x))] [] (fun v s' => v = some (.int (aRecall T c x)) ∧ frX s s') := by
  refine MV.aload_n dX12_recall_0 rfl ?_
  refine MV.iconst (v := 0) dX12_recall_1 (by decide) ?_
  refine MV.putf 0 fl_X12_148 dX12_recall_2 (by decide) rfl (rfl) (rfl) C12_s0 ?_
  refine MV.aload_n dX12_recall_5 rfl ?_
  refine MV.iload_n dX12_recall_6 rfl ?_
  refine MV.cV1 yoX12_isMan ml_X12_425 im_X12_isMan se_X12_isMan dX12_recall_7 rfl (Nat.le_of_ble_eq_true rfl) (by omega) rfl (Nat.le_of_ble_eq_true rfl) (mIsMan_M (by omega)) (MV.rdK ?_)
  refine MV.if_eq 22 dX12_recall_10 (by decide) (fun c10 => ?_) (fun c10 => ?_)
  · skip
    have hno := noMan hR.1 c10
    refine MV.iconst (v := (-1)) dX12_recall_22 (by decide) ?_
    refine MV.iret dX12_recall_23 rfl ?_
    first
    | exact ⟨by rw [aRecall, if_neg hno], frX.z⟩
    | exact ⟨by rw [aRecall, if_pos hman, hnat], frX.z.tr (frX.v f1)⟩
  · skip
    obtain ⟨hman, p, rfl, hp, hp6, hnat⟩ := yesMan hR.1 c10
    refine MV.aload_n dX12_recall_13 rfl ?_
    refine MV.iconst (v := nI 0) dX12_recall_14 (by decide) ?_
    refine MV.iload_n dX12_recall_15 rfl ?_
    refine MV.cV2 yoX12_recallOf ml_X12_434 im_X12_recallOf se_X12_recallOf dX12_recall_16 rfl (Nat.le_of_ble_eq_true rfl) (by omega) rfl (Nat.le_of_ble_eq_true rfl) (recallOf_M (T := T) (c := c) (r := 0) (by omega) (by decide) hR hp hqu.1) ?_
    rintro _ s1 ⟨rfl, f1⟩
    refine MV.goto 23 dX12_recall_19 (by decide) ?_
    refine MV.iret dX12_recall_23 rfl ?_
    first
    | exact ⟨by rw [aRecall, if_neg hno], frX.z⟩
    | exact ⟨by rw [aRecall, if_pos hman, hnat], frX.z.tr (frX.v f1)⟩
set_option maxRecDepth 100000 in
set_option maxHeartbeats 1000000 in
theorem keepInch_M {d n0 a : Nat} {κ : Kd} {h0 : Hp} (hd : 3 ≤ d) {T : Tx} {s c : St} (hqu : qui s) (hR : Rm T s 0 c) {x y : Int32} : MV MX12_keepInch (d, 0, 0, n0, κ) a h0 s 0 [some (.ref a), some (.int (x)), some (.int (y))] [] (fun v s' => v = some (.int (aKeep T c x y)) ∧ frX s s') := by
  refine MV.aload_n dX12_keepInch_0 rfl ?_
  refine MV.iconst (v := 0) dX12_keepInch_1 (by decide) ?_
  refine MV.putf 0 fl_X12_148 dX12_keepInch_2 (by decide) rfl (rfl) (rfl) C12_s0 ?_
  refine MV.aload_n dX12_keepInch_5 rfl ?_
  refine MV.iload_n dX12_keepInch_6 rfl ?_
  refine MV.cV1 yoX12_isMan ml_X12_425 im_X12_isMan se_X12_isMan dX12_keepInch_7 rfl (Nat.le_of_ble_eq_true rfl) (by omega) rfl (Nat.le_of_ble_eq_true rfl) (mIsMan_M (by omega)) (MV.rdK ?_)
  refine MV.if_eq 20 dX12_keepInch_10 (by decide) (fun c10 => ?_) (fun c10 => ?_)
  · skip
    have hno := noMan hR.1 c10
    refine MV.iconst (v := (-1)) dX12_keepInch_20 (by decide) ?_
    refine MV.iret dX12_keepInch_21 rfl ?_
    first
    | exact ⟨by rw [aKeep, if_neg (fun z => hno z.1)], frX.z⟩
    | exact ⟨by rw [aKeep, if_neg (fun z => by rw [bI_f c17] at z; cases z.2)], frX.z⟩
  · skip
    obtain ⟨hman, p, rfl, hp, hp6, hnat⟩ := yesMan hR.1 c10
    refine MV.iload_n dX12_keepInch_13 rfl ?_
    refine MV.cS1 yoX12_isInch ml_X12_428 st_X12_isInch dX12_keepInch_14 (Nat.le_of_ble_eq_true rfl) (by omega) rfl (Nat.le_of_ble_eq_true rfl) (fun h H => mIsInch_V (by omega)) ?_
    refine MV.if_ne 22 dX12_keepInch_17 (by decide) (fun c17 => ?_) (fun c17 => ?_)
    · skip
      have hin := bI_t c17
      obtain ⟨b1, b2, b3, b4⟩ := hR.2.1.r0 hp6
      have b0 : s.2.1 5 p = c.2.1 1 p := by rw [(hR.2.1.2.2.2.2.2.2 p hp).1, hqu.mIn hp6]
      refine MV.aload_n dX12_keepInch_22 rfl ?_
      refine MV.iconst (v := nI 0) dX12_keepInch_23 (by decide) ?_
      refine MV.iload_n dX12_keepInch_24 rfl ?_
      refine MV.iload_n dX12_keepInch_25 rfl ?_
      refine MV.cV3 yoX12_isLeft ml_X12_346 im_X12_isLeft se_X12_isLeft dX12_keepInch_26 rfl (Nat.le_of_ble_eq_true rfl) (by omega) rfl (Nat.le_of_ble_eq_true rfl) (mIsL_M (r := 0) (by omega) (by decide) hp6) (MV.rdK ?_)
      refine MV.if_ne 35 dX12_keepInch_29 (by decide) (fun c29 => ?_) (fun c29 => ?_)
      · skip
        have c29 : mIsL s 0 p y = true := bI_t c29
        refine MV.iload_n dX12_keepInch_35 rfl ?_
        refine MV.aload_n dX12_keepInch_36 rfl ?_
        refine MV.getf 40 fl_X12_87 dX12_keepInch_37 (by decide) rfl ?_
        refine MV.iload_n dX12_keepInch_40 rfl ?_
        refine MV.ald C12_in40 dX12_keepInch_41 (rfl) (by omega) (by decide) ?_
        refine MV.eqi (c.2.1 3 p) b1.symm ?_
        refine MV.isub dX12_keepInch_42 ?_
        refine MV.aload_n dX12_keepInch_43 rfl ?_
        refine MV.getf 5 fl_X12_19 dX12_keepInch_44 (by decide) rfl ?_
        refine MV.iload_n dX12_keepInch_47 rfl ?_
        refine MV.ald C12_in5 dX12_keepInch_48 (rfl) (by omega) (by decide) ?_
        refine MV.eqi (c.2.1 1 p) b0 ?_
        refine MV.aload_n dX12_keepInch_49 rfl ?_
        refine MV.getf 41 fl_X12_90 dX12_keepInch_50 (by decide) rfl ?_
        refine MV.iload_n dX12_keepInch_53 rfl ?_
        refine MV.ald C12_in41 dX12_keepInch_54 (rfl) (by omega) (by decide) ?_
        refine MV.eqi (c.2.1 4 p) b2.symm ?_
        refine MV.isub dX12_keepInch_55 ?_
        refine MV.iconst (v := 1) dX12_keepInch_56 (by decide) ?_
        refine MV.isub dX12_keepInch_57 ?_
        refine MV.iload_n dX12_keepInch_58 rfl ?_
        refine MV.isub dX12_keepInch_59 ?_
        refine MV.mmax ml_X12_459 st_J9_max_7cf53 ini_J9 co_J9_max_7cf53 dX12_keepInch_60 (by omega) (Nat.le_of_ble_eq_true rfl) ?_
        refine MV.iret dX12_keepInch_63 rfl ?_
        have hA : aKeep T c (nI p) y = cMax (y - c.2.1 3 p) (c.2.1 1 p - c.2.1 4 p - 1 - y) := by rw [aKeep, if_pos ⟨hman, hin⟩, hnat, if_pos (by rw [← hR.2.1.isl hR.1 hp]; exact c29)]
        exact ⟨by rw [hA]; try rfl, frX.z⟩
      · skip
        have c29 : mIsL s 0 p y = false := bI_f c29
        refine MV.bipush (v := (-2)) dX12_keepInch_32 (by decide) ?_
        refine MV.iret dX12_keepInch_34 rfl ?_
        exact ⟨by rw [aKeep, if_pos ⟨hman, hin⟩, hnat, if_neg (by rw [← hR.2.1.isl hR.1 hp, c29]; decide)], frX.z⟩
    · skip
      refine MV.iconst (v := (-1)) dX12_keepInch_20 (by decide) ?_
      refine MV.iret dX12_keepInch_21 rfl ?_
      first
      | exact ⟨by rw [aKeep, if_neg (fun z => hno z.1)], frX.z⟩
      | exact ⟨by rw [aKeep, if_neg (fun z => by rw [bI_f c17] at z; cases z.2)], frX.z⟩
set_option maxRecDepth 100000 in
set_option maxHeartbeats 1000000 in
theorem fault_M {d n0 a : Nat} {κ : Kd} {h0 : Hp} (hd : 1 ≤ d) {s : St} {x : Int32} : MV MX12_fault (d, 0, 0, n0, κ) a h0 s 0 [some (.ref a), some (.int (x))] [] (fun v s' => v = some (.int (aFault (s.1 29) (s.1 30) x)) ∧ frX s s') := by
  refine MV.aload_n dX12_fault_0 rfl ?_
  refine MV.iconst (v := 0) dX12_fault_1 (by decide) ?_
  refine MV.putf 0 fl_X12_148 dX12_fault_2 (by decide) rfl (rfl) (rfl) C12_s0 ?_
  refine MV.iload_n dX12_fault_5 rfl ?_
  refine MV.if_ne 16 dX12_fault_6 (by decide) (fun c6 => ?_) (fun c6 => ?_)
  · skip
    refine MV.iload_n dX12_fault_16 rfl ?_
    refine MV.iconst (v := 1) dX12_fault_17 (by decide) ?_
    refine MV.icmp_ne 28 dX12_fault_18 (by decide) (fun c18 => ?_) (fun c18 => ?_)
    · skip
      refine MV.iconst (v := (-1)) dX12_fault_28 (by decide) ?_
      refine MV.iret dX12_fault_29 rfl ?_
      first
      | exact ⟨by rw [aFault, if_pos c6]; rfl, frX.z⟩
      | exact ⟨by rw [aFault, if_neg c6, if_pos c18]; rfl, frX.z⟩
      | exact ⟨by rw [aFault, if_neg c6, if_neg c18], frX.z⟩
    · skip
      refine MV.aload_n dX12_fault_21 rfl ?_
      refine MV.getf 30 fl_X12_64 dX12_fault_22 (by decide) rfl ?_
      refine MV.goto 29 dX12_fault_25 (by decide) ?_
      refine MV.iret dX12_fault_29 rfl ?_
      first
      | exact ⟨by rw [aFault, if_pos c6]; rfl, frX.z⟩
      | exact ⟨by rw [aFault, if_neg c6, if_pos c18]; rfl, frX.z⟩
      | exact ⟨by rw [aFault, if_neg c6, if_neg c18], frX.z⟩
  · skip
    refine MV.aload_n dX12_fault_9 rfl ?_
    refine MV.getf 29 fl_X12_300 dX12_fault_10 (by decide) rfl ?_
    refine MV.goto 29 dX12_fault_13 (by decide) ?_
    refine MV.iret dX12_fault_29 rfl ?_
    first
    | exact ⟨by rw [aFault, if_pos c6]; rfl, frX.z⟩
    | exact ⟨by rw [aFault, if_neg c6, if_pos c18]; rfl, frX.z⟩
    | exact ⟨by rw [aFault, if_neg c6, if_neg c18], frX.z⟩
set_option maxRecDepth 100000 in
set_option maxHeartbeats 1000000 in
theorem named_M {d n0 a : Nat} {κ : Kd} {h0 : Hp} (hd : 2 ≤ d) {T : Tx} {s c : St} (hqu : qui s) (hR : Rm T s 0 c) {x : Int32} : MV MX12_named (d, 0, 0, n0, κ) a h0 s 0 [some (.ref a), some (.int (x))] [] (fun v s' => v = some (.int (findF (T.1.2.1 1) x (nat (T.1.1 0)) 0)) ∧ frX s s') := by
  refine MV.aload_n dX12_named_0 rfl ?_
  refine MV.iconst (v := 0) dX12_named_1 (by decide) ?_
  refine MV.putf 0 fl_X12_148 dX12_named_2 (by decide) rfl (rfl) (rfl) C12_s0 ?_
  refine MV.aload_n dX12_named_5 rfl ?_
  refine MV.getf 4 fl_X12_16 dX12_named_6 (by decide) rfl ?_
  refine MV.iconst (v := 0) dX12_named_9 (by decide) ?_
  refine MV.aload_n dX12_named_10 rfl ?_
  refine MV.getf 3 fl_X12_13 dX12_named_11 (by decide) rfl ?_
  refine MV.iconst (v := nI 0) dX12_named_14 (by decide) ?_
  refine MV.ald C12_in3 dX12_named_15 (rfl) (by omega) (by decide) ?_
  refine MV.eqi (nI (nat (T.1.1 0))) (by rw [hR.1.1.2.1]; exact hR.1.1.1.1) ?_
  refine MV.iload_n dX12_named_16 rfl ?_
  refine MV.cS4 yoX12_found ml_X12_214 st_X12_found dX12_named_17 (Nat.le_of_ble_eq_true rfl) (by omega) rfl (Nat.le_of_ble_eq_true rfl) (fun h H => found_V (by omega) (C12_r4 H) (n := nat (T.1.1 0)) (by have := hR.1.1.1.2; rw [hR.1.1.2.1]; omega) (by decide) (findF_congr _ _ (fun j hj => ((hR.1.1.2.2 j (by rw [← hR.1.1.2.1]; omega)).1).symm))) ?_
  refine MV.iret dX12_named_20 rfl ?_
  exact ⟨rfl, frX.z⟩
set_option maxRecDepth 100000 in
set_option maxHeartbeats 2000000 in
theorem law_M {d n0 a : Nat} {κ : Kd} {h0 : Hp} (hd : 5 ≤ d) {T : Tx} {s c : St} (hqu : qui s) (hR : Rm T s 0 c) {w x : Int32} : MV MX12_law (d, 0, 0, n0, κ) a h0 s 0 [some (.ref a), some (.int (w)), some (.int (x))] [] (fun v s' => v = some (.long (aLaw T c w x)) ∧ frX s s') := by
  refine MV.aload_n dX12_law_0 rfl ?_
  refine MV.iconst (v := 0) dX12_law_1 (by decide) ?_
  refine MV.putf 0 fl_X12_148 dX12_law_2 (by decide) rfl (rfl) (rfl) C12_s0 ?_
  refine MV.iload_n dX12_law_5 rfl ?_
  refine MV.if_lt 30 dX12_law_6 (by decide) (fun c6 => ?_) (fun c6 => ?_)
  · skip
    have hA : aLaw T c w x = ERR := by rw [aLaw, if_neg (fun z => z.2.1 c6)]
    refine MV.ldc2 kc_X12_439 dX12_law_30 ?_
    refine MV.lret dX12_law_33 rfl ?_
    exact ⟨by rw [hA]; try rfl, frX.z⟩
  · skip
    refine MV.iload_n dX12_law_9 rfl ?_
    refine MV.iconst (v := 2) dX12_law_10 (by decide) ?_
    refine MV.icmp_gt 30 dX12_law_11 (by decide) (fun c11 => ?_) (fun c11 => ?_)
    · skip
      have hA : aLaw T c w x = ERR := by rw [aLaw, if_neg (fun z => z.2.2 c11)]
      refine MV.ldc2 kc_X12_439 dX12_law_30 ?_
      refine MV.lret dX12_law_33 rfl ?_
      exact ⟨by rw [hA]; try rfl, frX.z⟩
    · skip
      obtain ⟨k, hqk, rfl, hq3⟩ : ∃ k, k < 3 ∧ w = nI k ∧ nat w = k := by
        obtain ⟨k, hk, rfl⟩ := nI_of c6
        have : k ≤ 2 := Nat.not_lt.mp fun z => c11 (nI_lt (a := 2) z hk)
        exact ⟨k, by omega, rfl, nI_clamp hk⟩
      refine MV.aload_n dX12_law_14 rfl ?_
      refine MV.iload_n dX12_law_15 rfl ?_
      refine MV.cV1 yoX12_hasLaw ml_X12_362 im_X12_hasLaw se_X12_hasLaw dX12_law_16 rfl (Nat.le_of_ble_eq_true rfl) (by omega) rfl (Nat.le_of_ble_eq_true rfl) (hasLaw_M (k := k) (by omega) (by omega)) (MV.rdK ?_)
      refine MV.if_eq 30 dX12_law_19 (by decide) (fun c19 => ?_) (fun c19 => ?_)
      · skip
        have c19 : hasB (s.2.1 16 k) (s.2.1 17 k) = false := bI_f c19
        have hA : aLaw T c (nI k) x = ERR := by
          rw [aLaw]
          split
          · rw [hq3, tW0 hR.1 hqk c19]
          · rfl
        refine MV.ldc2 kc_X12_439 dX12_law_30 ?_
        refine MV.lret dX12_law_33 rfl ?_
        exact ⟨by rw [hA]; try rfl, frX.z⟩
      · skip
        have c19 : hasB (s.2.1 16 k) (s.2.1 17 k) = true := bI_t c19
        refine MV.aload_n dX12_law_22 rfl ?_
        refine MV.iload_n dX12_law_23 rfl ?_
        refine MV.cV1 yoX12_isMan ml_X12_425 im_X12_isMan se_X12_isMan dX12_law_24 rfl (Nat.le_of_ble_eq_true rfl) (by omega) rfl (Nat.le_of_ble_eq_true rfl) (mIsMan_M (by omega)) (MV.rdK ?_)
        refine MV.if_ne 34 dX12_law_27 (by decide) (fun c27 => ?_) (fun c27 => ?_)
        · skip
          obtain ⟨hman, p, rfl, hp, hp6, hnat⟩ := yesMan hR.1 c27
          refine MV.aload_n dX12_law_34 rfl ?_
          refine MV.iconst (v := nI 0) dX12_law_35 (by decide) ?_
          refine MV.iload_n dX12_law_36 rfl ?_
          refine MV.aload_n dX12_law_37 rfl ?_
          refine MV.cV0 yoX12_windyAsItGoes ml_X12_378 im_X12_windyAsItGoes se_X12_windyAsItGoes dX12_law_38 rfl (Nat.le_of_ble_eq_true rfl) (by omega) rfl (Nat.le_of_ble_eq_true rfl) (wAs_M (by omega)) (MV.rdK ?_)
          refine MV.eqi (bI (tWindy T.1)) (congrArg bI (wAs0 hR.1 hqu.1)) ?_
          refine MV.cV3 yoX12_calls ml_X12_382 im_X12_calls se_X12_calls dX12_law_41 rfl (Nat.le_of_ble_eq_true rfl) (by omega) rfl (Nat.le_of_ble_eq_true rfl) (calls_M (T := T) (c := c) (r := 0) (w := tWindy T.1) (by omega) (by decide) hR.1 hR.2.1 hR.2.2 hp) ?_
          rintro _ s1 ⟨rfl, hN, k1, k2⟩
          have fc : frX (mI s 0 0) s1 := ⟨fun j _ _ _ => by rw [k1], fun _ _ _ _ => by rw [k2], fun _ _ _ _ _ => by rw [k2], fun _ _ _ _ _ => by rw [k2]⟩
          have hT1 : relT T s1.2.1 := by rw [k2]; exact hR.1
          obtain ⟨w1, w2, w3, w4⟩ := hT1.2.2.2.2.2.2
          obtain ⟨g1, g2, g3, g4, g5, g6, g7⟩ := w4 k hqk
          have tw : tW T k c p (tWindy T.1) = wRun (ownL c p (tWindy T.1)) (T.2.2.2.2.1 2) (T.2.2.2.2.1 3) (nat (s1.2.1 17 k) - nat (s1.2.1 16 k)) (nat (s1.2.1 16 k)) [] := by
            unfold tW
            rw [g1, g2]
          have hlt := hasB_lt hT1 hqk (by rw [k2]; exact c19)
          refine MV.aload_n dX12_law_44 rfl ?_
          refine MV.iload_n dX12_law_45 rfl ?_
          refine MV.cV1 yoX12_goes ml_X12_365 im_X12_goes se_X12_goes dX12_law_46 rfl (Nat.le_of_ble_eq_true rfl) (by omega) rfl (Nat.le_of_ble_eq_true rfl) (goes_M (own := ownL c p (tWindy T.1)) (ks := T.2.2.2.2.1 2) (ns := T.2.2.2.2.1 3) (by omega) (by omega) g3.1 g4.1 g5 (by have := g4.2; omega) (fun k h1 h2 => w3 k (by omega)) (g7 hlt) hN (fun _ => rfl) (fun _ _ _ _ => inR_own) tw.symm) ?_
          rintro _ s2 ⟨b, rfl, sc, hb1, hb2⟩
          refine MV.if_eq 61 dX12_law_49 (by decide) (fun c49 => ?_) (fun c49 => ?_)
          · skip
            have hb := bI_f c49
            have hA : aLaw T c (nI k) (nI p) = ERR := by rw [aLaw, if_pos ⟨hman, c6, c11⟩, hnat, hq3]; exact Classical.byContradiction fun z => by rw [hb, decide_eq_true z] at hb1; cases hb1
            refine MV.ldc2 kc_X12_439 dX12_law_61 ?_
            refine MV.lret dX12_law_64 rfl ?_
            exact ⟨by rw [hA]; try rfl, (frX.z.tr fc).tr (frX.sc sc)⟩
          · skip
            have hb := bI_t c49
            have hA : aLaw T c (nI k) (nI p) = tW T k c p (tWindy T.1) := by rw [aLaw, if_pos ⟨hman, c6, c11⟩, hnat, hq3]
            refine MV.aload_n dX12_law_52 rfl ?_
            refine MV.getf 34 fl_X12_72 dX12_law_53 (by decide) rfl ?_
            refine MV.iconst (v := nI 0) dX12_law_56 (by decide) ?_
            refine MV.jld C12_in34 dX12_law_57 (rfl) (by omega) (by decide) ?_
            refine MV.eql (tW T k c p (tWindy T.1)) (hb2 hb) ?_
            refine MV.goto 64 dX12_law_58 (by decide) ?_
            refine MV.lret dX12_law_64 rfl ?_
            exact ⟨by rw [hA]; try rfl, (frX.z.tr fc).tr (frX.sc sc)⟩
        · skip
          have hno := noMan hR.1 c27
          have hA : aLaw T c (nI k) x = ERR := by rw [aLaw, if_neg (fun z => hno z.1)]
          refine MV.ldc2 kc_X12_439 dX12_law_30 ?_
          refine MV.lret dX12_law_33 rfl ?_
          exact ⟨by rw [hA]; try rfl, frX.z⟩
