/-! Line: lend of the model -/
set_option maxRecDepth 100000 in
set_option maxHeartbeats 8000000 in
theorem lendLine_M {d n0 a : Nat} {κ : Kd} {h0 : Hp} (hd : 11 ≤ d) {b : Nat → Int32} {n : Nat} (hn : n ≤ 700) (hbb : ∀ k, k < n → ¬ b k = -1 ∧ b k < 256) {s0 s : St} {S : PS} (h : LQ b n S s0 s 4) (hk : S.1.2.1 = nI 4) (hfull : decide (s.2.1 3 12 = nI 8) = false) : MV MX12_lendLine (d, 0, 0, n0, κ) a h0 s 0 [some (.ref a), none, none] [] (fun v s' => v = none ∧ frP s0 s' ∧ s'.1 21 = s0.1 21 ∧ BD b n S s') := by
  have hLQ := h
  obtain ⟨hf, h21, h20, hM, ht, htd⟩ := h
  obtain ⟨g1, g2, g3, g4, g5, g6, g7⟩ := id hM
  obtain ⟨P, hPe⟩ : ∃ P, P = nat (S.2.1.1.1 0) := ⟨_, rfl⟩
  have hnm : nmR (stepP b n S).2.1 s P := by rw [hPe]; exact nmR.of g1
  have hj9 : okN (s.2.1 3 12) 9 ∧ S.2.1.1.1 6 = s.2.1 3 12 := ⟨g1.2.2.2.2.1.1, g1.2.2.2.2.1.2.1⟩
  obtain ⟨z, hze⟩ : ∃ z, z = nat (s.2.1 3 12) := ⟨_, rfl⟩
  have hz8 : s.2.1 3 12 = nI z := by rw [hze]; exact hj9.1.1
  have hz12 : z < 8 := by rw [hze]; exact cnt_of (c := 8) (b := 9) hj9.1 (by omega) (by omega) hfull
  have hR : lineP b n S = bindP (persP (stepP b n S)) (rLend1 b n) := by
    rw [lP_4 hk]
    unfold rLend
    rw [if_pos]
    rw [hj9.2, hz8]
    exact nI_lt (b := 8) hz12 (by decide)
  refine MV.bipush (v := 8) dX12_lendLine_0 (by decide) ?_
  refine MV.aload_n dX12_lendLine_2 rfl ?_
  refine MV.iconst (v := nI 4) dX12_lendLine_3 (by decide) ?_
  refine MV.cV1 yoX12_fresher ml_X12_218 im_X12_fresher se_X12_fresher dX12_lendLine_4 rfl (Nat.le_of_ble_eq_true rfl) (by omega) rfl (Nat.le_of_ble_eq_true rfl) (fresher_M (k := 4) (by omega) (by omega)) (MV.rdK ?_)
  refine MV.eqi (nI z) (hz8) ?_
  refine MV.iadd dX12_lendLine_7 ?_
  refine MV.eqi (nI (8 + z)) (nI_add 8 z) ?_
  refine MV.istore_n dX12_lendLine_8 (by decide) rfl ?_
  refine MV.aload_n dX12_lendLine_9 rfl ?_
  refine MV.getf 14 fl_X12_46 dX12_lendLine_10 (by decide) rfl ?_
  refine MV.iload_n dX12_lendLine_13 rfl ?_
  refine MV.aload_n dX12_lendLine_14 rfl ?_
  refine MV.cV0 yoX12_manAhead ml_X12_249 im_X12_manAhead se_X12_manAhead dX12_lendLine_15 rfl (Nat.le_of_ble_eq_true rfl) (by omega) rfl (Nat.le_of_ble_eq_true rfl) (manAheadD_M (S := (stepP b n S)) (P := P) (k := rLend1 b n) (by omega) hn hbb hnm (Or.inr ⟨hR, ht⟩)) ?_
  rintro _ s3 ⟨r, rfl, f3, hD3⟩
  refine MV.ast C12_in14 dX12_lendLine_18 (rfl) (by omega) (by decide) ?_
  refine MV.aload_n dX12_lendLine_19 rfl ?_
  refine MV.getf 15 fl_X12_49 dX12_lendLine_20 (by decide) rfl ?_
  refine MV.iload_n dX12_lendLine_23 rfl ?_
  refine MV.aload_n dX12_lendLine_24 rfl ?_
  refine MV.cV0 yoX12_manAtHand ml_X12_222 im_X12_manAtHand se_X12_manAtHand dX12_lendLine_25 rfl (Nat.le_of_ble_eq_true rfl) (by omega) rfl (Nat.le_of_ble_eq_true rfl) (manAtD_M (s := mA s3 14 (8 + z) r) (S := (stepP b n (stepP b n S))) (P := P) (k := rLend2 b n (nat (findP (stepP b n S)))) (by omega) (show nmR (stepP b n (stepP b n S)).2.1 (mA s3 14 (8 + z) r) P from ⟨hnm.1, by show s3.2.1 3 8 = _; rw [f3.1]; exact hnm.2.1, hnm.2.2.1, fun p hp => by show _ = s3.2.1 4 (6 + p); rw [f3.1]; exact hnm.2.2.2 p hp⟩) (hD3.imp id (fun z => ⟨z.1, z.2.2⟩))) ?_
  rintro _ s5 ⟨r2, rfl, f5, hD5⟩
  refine MV.ast C12_in15 dX12_lendLine_28 (rfl) (by omega) (by decide) ?_
  obtain ⟨i0, hi0⟩ : ∃ i0, i0 = nat (findP (stepP b n S)) := ⟨_, rfl⟩
  obtain ⟨j0, hj0⟩ : ∃ j0, j0 = nat (findP (stepP b n (stepP b n S))) := ⟨_, rfl⟩
  have hdup : ∀ j, j < z → (lineP b n S = rLend2 b n i0 (stepP b n (stepP b n S)) ∧ ((r = nI i0 ∧ i0 < P) ∧ (r2 = nI j0 ∧ j0 < P ∧ findP (stepP b n (stepP b n S)) = nI j0) ∧ ¬ i0 = j0) ∧ s5 = mA s3 14 (8 + z) r ∧ tkS b n (mA s5 15 (8 + z) r2) (stepP b n (stepP b n S)).1) → (mA s5 15 (8 + z) r2).2.1 14 (8 + j) = (mA s5 15 (8 + z) r2).2.1 14 (8 + z) → (mA s5 15 (8 + z) r2).2.1 15 (8 + j) = (mA s5 15 (8 + z) r2).2.1 15 (8 + z) → FAILS (lineP b n S) (wS (mA s5 15 (8 + z) r2) 3) := by
    intro j hj hok c1 c2
    have e5 : s5.2.1 = uA s.2.1 14 (8 + z) r := by rw [f5.1]; show uA s3.2.1 14 (8 + z) r = _; rw [f3.1]
    have c1' : s.2.1 14 (8 + j) = nI i0 := by
      have c3 : uA s5.2.1 15 (8 + z) r2 14 (8 + j) = uA s5.2.1 15 (8 + z) r2 14 (8 + z) := c1
      rw [uA_ne (by decide), e5, uA_at, uA_at, if_neg (by omega), if_pos rfl, hok.2.1.1.1] at c3
      exact c3
    have c2' : s.2.1 15 (8 + j) = nI j0 := by
      have c3 : uA s5.2.1 15 (8 + z) r2 15 (8 + j) = uA s5.2.1 15 (8 + z) r2 15 (8 + z) := c2
      rw [uA_at, uA_at, if_neg (by omega), if_pos rfl, e5, uA_ne (by decide), hok.2.1.2.1.1] at c3
      exact c3
    have hzn : nat ((upF s.2.1) 3 4) = z := by show nat (s.2.1 3 12) = z; rw [hz8]; exact nat_nI (by omega)
    have hbit : bt (S.2.1.1.2.1 4 j0) i0 = true := by
      have hj6 : j0 < 6 := by have := hnm.1; have := hok.2.1.2.1.2.1; omega
      rw [g1.2.2.2.2.1.2.2.2 j0 hj6, hzn]
      exact (lendF_bt (by have := hnm.1; have := hok.2.1.1.2; omega) z (fun k hk => ((g1.2.2.2.2.1.2.2.1 k (by rw [hzn]; exact hk)).1).up (by have := g1.1.1.2; omega))).mpr ⟨j, hj, c1', c2'⟩
    refine FAILS.w (S := (stepP b n (stepP b n S))) ?_ (by decide) hok.2.2.2.1
    rw [hok.1]
    unfold rLend2
    have hi6 := hok.2.1.1.2
    have hj6 := hok.2.1.2.1.2.1
    rw [hok.2.1.2.1.2.2, nat_nI (by have := hnm.1; omega), if_neg (fun z => hok.2.1.2.2 (nI_eq700 (by have := hnm.1; omega) (by have := hnm.1; omega) z)), if_neg (fun z => by have y : bt (S.2.1.1.2.1 4 j0) i0 = false := (bt_tst (by have := hnm.1; omega)).1.mp z; rw [y] at hbit; cases hbit)]
  have hloop : ∀ (k i : Nat) (s2 : St), i + k = z → frK3 (mA s5 15 (8 + z) r2) s2 → (FAILS (lineP b n S) s2 ∨ (s2 = (mA s5 15 (8 + z) r2) ∧ (lineP b n S = rLend2 b n i0 (stepP b n (stepP b n S)) ∧ ((r = nI i0 ∧ i0 < P) ∧ (r2 = nI j0 ∧ j0 < P ∧ findP (stepP b n (stepP b n S)) = nI j0) ∧ ¬ i0 = j0) ∧ s5 = mA s3 14 (8 + z) r ∧ tkS b n (mA s5 15 (8 + z) r2) (stepP b n (stepP b n S)).1) ∧ ∀ j, j < i → ¬ ((mA s5 15 (8 + z) r2).2.1 14 (8 + j) = (mA s5 15 (8 + z) r2).2.1 14 (8 + z) ∧ (mA s5 15 (8 + z) r2).2.1 15 (8 + j) = (mA s5 15 (8 + z) r2).2.1 15 (8 + z)))) → MV MX12_lendLine (d, 0, 0, n0, κ) a h0 s2 59 [some (.ref a), some (.int (nI (8 + z))), some (.int (nI (8 + i)))] [] (fun v s' => v = none ∧ frP s0 s' ∧ s'.1 21 = s0.1 21 ∧ BD b n S s') := by
    intro k
    induction k with
    | zero =>
      intro i s2 hik hfr hQ
      have hi : z = i := by omega
      subst hi
      rcases hQ with hQ | ⟨hs2, hok, hnd⟩
      · skip
        refine MV.iload_n dX12_lendLine_59 rfl ?_
        refine MV.iload_n dX12_lendLine_60 rfl ?_
        refine MV.icmp_ge 112 dX12_lendLine_61 (by decide) (fun _ => ?_) (fun z => absurd (nI_le (by omega) (by omega)) z)
        refine MV.aload_n dX12_lendLine_112 rfl ?_
        refine MV.cV0 yoX12_goOn ml_X12_225 im_X12_goOn se_X12_goOn dX12_lendLine_113 rfl (Nat.le_of_ble_eq_true rfl) (by omega) rfl (Nat.le_of_ble_eq_true rfl) (goOn1_M (s := s2) (by omega) hQ.ne) ?_
        rintro _ s7 ⟨rfl, he7⟩
        have f7 : frK3 s2 s7 := by rw [he7]; exact frK3.rf
        have K7 : ∀ j, (j < 23 ∨ 28 < j) → s7.1 j = s.1 j := fun j hj => (f7.2 j (by omega) (by omega) (by omega) (by omega) (by omega) (by omega)).trans ((hfr.2 j (by omega) (by omega) (by omega) (by omega) (by omega) (by omega)).trans ((f5.2 j (by omega) (by omega) (by omega) (by omega) (by omega) (by omega)).trans (f3.2 j (by omega) (by omega) (by omega) (by omega) (by omega) (by omega))))
        refine MV.aload_n dX12_lendLine_116 rfl ?_
        refine MV.iconst (v := nI 4) dX12_lendLine_117 (by decide) ?_
        refine MV.aload_n dX12_lendLine_118 rfl ?_
        refine MV.iconst (v := nI 4) dX12_lendLine_119 (by decide) ?_
        refine MV.cV1 yoX12_fresher ml_X12_218 im_X12_fresher se_X12_fresher dX12_lendLine_120 rfl (Nat.le_of_ble_eq_true rfl) (by omega) rfl (Nat.le_of_ble_eq_true rfl) (fresher_M (s := s7) (k := 4) (by omega) (by omega)) (MV.rdK ?_)
        refine MV.eqi (nI z) (by show s7.2.1 3 12 = _; rw [f7.1, hfr.1]; show s5.2.1 3 12 = _; rw [f5.1]; show s3.2.1 3 12 = _; rw [f3.1]; exact hz8) ?_
        refine MV.iconst (v := 1) dX12_lendLine_123 (by decide) ?_
        refine MV.iadd dX12_lendLine_124 ?_
        refine MV.eqi (nI (z + 1)) (nI_1 z) ?_
        refine MV.cV2 yoX12_reads ml_X12_242 im_X12_reads se_X12_reads dX12_lendLine_125 rfl (Nat.le_of_ble_eq_true rfl) (by omega) rfl (Nat.le_of_ble_eq_true rfl) (reads_M (s := s7) (k := 4) (v := nI (z + 1)) (by omega) (by omega)) ?_
        rintro _ _ ⟨rfl, rfl⟩
        refine MV.vret dX12_lendLine_128 rfl ?_
        exact ⟨rfl, ((((((hf.k3 f3).a (k := 14) (by decide) (by decide) (by show 8 ≤ 8 + z; omega)).k3 f5).a (k := 15) (by decide) (by decide) (by show 8 ≤ 8 + z; omega)).k3 hfr).k3 f7).a (k := 3) (by decide) (by decide) (by decide), (K7 21 (by decide)).trans h21, Or.inl (by rw [he7]; exact hQ)⟩
      · skip
        subst hs2
        have hi6 := hok.2.1.1.2
        have hj6 := hok.2.1.2.1.2.1
        refine MV.iload_n dX12_lendLine_59 rfl ?_
        refine MV.iload_n dX12_lendLine_60 rfl ?_
        refine MV.icmp_ge 112 dX12_lendLine_61 (by decide) (fun _ => ?_) (fun z => absurd (nI_le (by omega) (by omega)) z)
        refine MV.aload_n dX12_lendLine_112 rfl ?_
        refine MV.cV0 yoX12_goOn ml_X12_225 im_X12_goOn se_X12_goOn dX12_lendLine_113 rfl (Nat.le_of_ble_eq_true rfl) (by omega) rfl (Nat.le_of_ble_eq_true rfl) (goOn0_M (q := (stepP b n (stepP b n S)).1) (by omega) hok.2.2.2.2.2.1 hok.2.2.2.1.1 hn hok.2.2.2.2.1 (by rw [hok.2.2.2.2.2.2.1]; exact hbb) hok.2.2.2.2.2.2.2.1) ?_
        rintro _ s7 ⟨rfl, h7, t7⟩
        have f7 : frK3 _ s7 := frK3.of h7
        have K7 : ∀ j, (j < 23 ∨ 28 < j) → s7.1 j = s.1 j := fun j hj => (f7.2 j (by omega) (by omega) (by omega) (by omega) (by omega) (by omega)).trans ((hfr.2 j (by omega) (by omega) (by omega) (by omega) (by omega) (by omega)).trans ((f5.2 j (by omega) (by omega) (by omega) (by omega) (by omega) (by omega)).trans (f3.2 j (by omega) (by omega) (by omega) (by omega) (by omega) (by omega))))
        refine MV.aload_n dX12_lendLine_116 rfl ?_
        refine MV.iconst (v := nI 4) dX12_lendLine_117 (by decide) ?_
        refine MV.aload_n dX12_lendLine_118 rfl ?_
        refine MV.iconst (v := nI 4) dX12_lendLine_119 (by decide) ?_
        refine MV.cV1 yoX12_fresher ml_X12_218 im_X12_fresher se_X12_fresher dX12_lendLine_120 rfl (Nat.le_of_ble_eq_true rfl) (by omega) rfl (Nat.le_of_ble_eq_true rfl) (fresher_M (s := s7) (k := 4) (by omega) (by omega)) (MV.rdK ?_)
        refine MV.eqi (nI z) (by show s7.2.1 3 12 = _; rw [f7.1, hfr.1]; show s5.2.1 3 12 = _; rw [f5.1]; show s3.2.1 3 12 = _; rw [f3.1]; exact hz8) ?_
        refine MV.iconst (v := 1) dX12_lendLine_123 (by decide) ?_
        refine MV.iadd dX12_lendLine_124 ?_
        refine MV.eqi (nI (z + 1)) (nI_1 z) ?_
        refine MV.cV2 yoX12_reads ml_X12_242 im_X12_reads se_X12_reads dX12_lendLine_125 rfl (Nat.le_of_ble_eq_true rfl) (by omega) rfl (Nat.le_of_ble_eq_true rfl) (reads_M (s := s7) (k := 4) (v := nI (z + 1)) (by omega) (by omega)) ?_
        rintro _ _ ⟨rfl, rfl⟩
        refine MV.vret dX12_lendLine_128 rfl ?_
        refine ⟨rfl, ((((((hf.k3 f3).a (k := 14) (by decide) (by decide) (by show 8 ≤ 8 + z; omega)).k3 f5).a (k := 15) (by decide) (by decide) (by show 8 ≤ 8 + z; omega)).k3 hfr).k3 f7).a (k := 3) (by decide) (by decide) (by decide), (K7 21 (by decide)).trans h21, ?_⟩
        have ht7 := hok.2.2.2.tok h7 (by rwa [hok.2.2.2.2.2.2.1] at t7)
        have e5 : s5.2.1 = uA s.2.1 14 (8 + z) r := by rw [f5.1]; show uA s3.2.1 14 (8 + z) r = _; rw [f3.1]
        have hbit : bt (S.2.1.1.2.1 4 j0) i0 = false := by
          have hj6 : j0 < 6 := by have := hnm.1; omega
          rw [g1.2.2.2.2.1.2.2.2 j0 hj6]
          have hzn : nat ((upF s.2.1) 3 4) = z := by show nat (s.2.1 3 12) = z; rw [hz8]; exact nat_nI (by omega)
          rw [hzn]
          cases hb : bt (lendF ((upF s.2.1) 14) ((upF s.2.1) 15) (nI j0) z) i0 with
          | false => rfl
          | true =>
            obtain ⟨k, k1, k2, k3⟩ := (lendF_bt (by have := hnm.1; omega) z (fun k hk => ((g1.2.2.2.2.1.2.2.1 k (by rw [hzn]; exact hk)).1).up (by have := g1.1.1.2; omega))).mp hb
            refine absurd ⟨?_, ?_⟩ (hnd k k1)
            · show uA s5.2.1 15 (8 + z) r2 14 (8 + k) = uA s5.2.1 15 (8 + z) r2 14 (8 + z)
              rw [uA_ne (by decide), e5, uA_at, uA_at, if_neg (by omega), if_pos rfl, hok.2.1.1.1]
              exact k2
            · show uA s5.2.1 15 (8 + z) r2 15 (8 + k) = uA s5.2.1 15 (8 + z) r2 15 (8 + z)
              rw [uA_at, uA_at, if_neg (by omega), if_pos rfl, e5, uA_ne (by decide), hok.2.1.2.1.1]
              exact k3
        have hRR : lineP b n S = (true, (tokN b n (stepP b n (stepP b n S)).1, (lendSet S.2.1.1 i0 j0, S.2.1.2), S.2.2)) := by
          rw [hok.1]
          unfold rLend2
          rw [hok.2.1.2.1.2.2, nat_nI (by have := hnm.1; omega), if_neg (fun z => hok.2.1.2.2 (nI_eq700 (by have := hnm.1; omega) (by have := hnm.1; omega) z)), if_pos (show ((stepP b n (stepP b n S)).2.1.1.2.1 4 j0 >>> (nI i0 &&& 31)) &&& 1 = 0 from (bt_tst (by have := hnm.1; omega)).1.mpr hbit)]
          rfl
        refine BD.mk hLQ (by omega) hRR ht7 ?_ (K7 31 (by decide)) (K7 32 (by decide)) (K7 20 (by decide)) rfl rfl rfl
        have e7 : s7.2.1 = uA (uA s.2.1 14 (8 + z) r) 15 (8 + z) r2 := by rw [f7.1]; show uA s5.2.1 15 (8 + z) r2 = _; rw [e5]
        show relT _ (upF (uA s7.2.1 3 (8 + 4) (nI (z + 1))))
        rw [e7, upF_uJ (k := 3) (i := 4) (j := 8 + 4) rfl, upF_uJ (k := 15) (i := z) (j := 8 + z) rfl, upF_uJ (k := 14) (i := z) (j := 8 + z) rfl, hok.2.1.1.1, hok.2.1.2.1.1]
        have hPn : nat ((upF s.2.1) 3 0) = P := by show nat (s.2.1 3 8) = P; rw [hnm.2.1]; exact nat_nI (by have := hnm.1; omega)
        exact relT_lend g1 hz8 hz12 (by rw [hPn]; exact hok.2.1.1.2) (by rw [hPn]; exact hok.2.1.2.1.2.1)
    | succ k ih =>
      intro i s2 hik hfr hQ
      rcases hQ with hQ | ⟨hs2, hok, hnd⟩
      · skip
        refine MV.iload_n dX12_lendLine_59 rfl ?_
        refine MV.iload_n dX12_lendLine_60 rfl ?_
        refine MV.icmp_ge 112 dX12_lendLine_61 (by decide) (fun z => absurd z (nI_ge (by omega) (by omega))) (fun _ => ?_)
        refine MV.aload_n dX12_lendLine_64 rfl ?_
        refine MV.getf 27 fl_X12_202 dX12_lendLine_65 (by decide) rfl ?_
        refine MV.if_ne 106 dX12_lendLine_68 (by decide) (fun _ => ?_) (fun z => absurd z (hQ.ne))
        refine MV.iinc (v := 1) dX12_lendLine_106 rfl (by decide) (by decide) rfl ?_
        refine MV.goto 59 dX12_lendLine_109 (by decide) ?_
        exact MV.weak [some (.ref a), some (.int (nI (8 + z))), some (.int (nI (8 + (i + 1))))] (by simp [leL, sto1, sto2, k2c, nI_1, Nat.add_assoc]) (ih (i + 1) s2 (by omega) hfr (Or.inl hQ))
      · skip
        subst hs2
        refine MV.iload_n dX12_lendLine_59 rfl ?_
        refine MV.iload_n dX12_lendLine_60 rfl ?_
        refine MV.icmp_ge 112 dX12_lendLine_61 (by decide) (fun z => absurd z (nI_ge (by omega) (by omega))) (fun _ => ?_)
        refine MV.aload_n dX12_lendLine_64 rfl ?_
        refine MV.getf 27 fl_X12_202 dX12_lendLine_65 (by decide) rfl ?_
        refine MV.if_ne 106 dX12_lendLine_68 (by decide) (fun z => absurd (hok.2.2.2.2.2.2.2.1) z) (fun _ => ?_)
        refine MV.aload_n dX12_lendLine_71 rfl ?_
        refine MV.getf 14 fl_X12_46 dX12_lendLine_72 (by decide) rfl ?_
        refine MV.iload_n dX12_lendLine_75 rfl ?_
        refine MV.ald C12_in14 dX12_lendLine_76 (rfl) (by omega) (by decide) ?_
        refine MV.aload_n dX12_lendLine_77 rfl ?_
        refine MV.getf 14 fl_X12_46 dX12_lendLine_78 (by decide) rfl ?_
        refine MV.iload_n dX12_lendLine_81 rfl ?_
        refine MV.ald C12_in14 dX12_lendLine_82 (rfl) (by omega) (by decide) ?_
        refine MV.icmp_ne 106 dX12_lendLine_83 (by decide) (fun c83 => ?_) (fun c83 => ?_)
        · skip
          refine MV.iinc (v := 1) dX12_lendLine_106 rfl (by decide) (by decide) rfl ?_
          refine MV.goto 59 dX12_lendLine_109 (by decide) ?_
          first
          | (exact MV.weak [some (.ref a), some (.int (nI (8 + z))), some (.int (nI (8 + (i + 1))))] (by simp [leL, sto1, sto2, k2c, nI_1, Nat.add_assoc]) (ih (i + 1) _ (by omega) frK3.rf (Or.inr ⟨rfl, hok, fun j hj => if hji : j = i then by rw [hji]; exact fun z => c83 z.1 else hnd j (by omega)⟩)))
          | (exact MV.weak [some (.ref a), some (.int (nI (8 + z))), some (.int (nI (8 + (i + 1))))] (by simp [leL, sto1, sto2, k2c, nI_1, Nat.add_assoc]) (ih (i + 1) _ (by omega) frK3.rf (Or.inr ⟨rfl, hok, fun j hj => if hji : j = i then by rw [hji]; exact fun z => c98 z.2 else hnd j (by omega)⟩)))
          | (exact MV.weak [some (.ref a), some (.int (nI (8 + z))), some (.int (nI (8 + (i + 1))))] (by simp [leL, sto1, sto2, k2c, nI_1, Nat.add_assoc]) (ih (i + 1) _ (by omega) frK3.rf.w (Or.inl (hdup i (by omega) hok c83 c98))))
        · skip
          refine MV.aload_n dX12_lendLine_86 rfl ?_
          refine MV.getf 15 fl_X12_49 dX12_lendLine_87 (by decide) rfl ?_
          refine MV.iload_n dX12_lendLine_90 rfl ?_
          refine MV.ald C12_in15 dX12_lendLine_91 (rfl) (by omega) (by decide) ?_
          refine MV.aload_n dX12_lendLine_92 rfl ?_
          refine MV.getf 15 fl_X12_49 dX12_lendLine_93 (by decide) rfl ?_
          refine MV.iload_n dX12_lendLine_96 rfl ?_
          refine MV.ald C12_in15 dX12_lendLine_97 (rfl) (by omega) (by decide) ?_
          refine MV.icmp_ne 106 dX12_lendLine_98 (by decide) (fun c98 => ?_) (fun c98 => ?_)
          · skip
            refine MV.iinc (v := 1) dX12_lendLine_106 rfl (by decide) (by decide) rfl ?_
            refine MV.goto 59 dX12_lendLine_109 (by decide) ?_
            first
            | (exact MV.weak [some (.ref a), some (.int (nI (8 + z))), some (.int (nI (8 + (i + 1))))] (by simp [leL, sto1, sto2, k2c, nI_1, Nat.add_assoc]) (ih (i + 1) _ (by omega) frK3.rf (Or.inr ⟨rfl, hok, fun j hj => if hji : j = i then by rw [hji]; exact fun z => c83 z.1 else hnd j (by omega)⟩)))
            | (exact MV.weak [some (.ref a), some (.int (nI (8 + z))), some (.int (nI (8 + (i + 1))))] (by simp [leL, sto1, sto2, k2c, nI_1, Nat.add_assoc]) (ih (i + 1) _ (by omega) frK3.rf (Or.inr ⟨rfl, hok, fun j hj => if hji : j = i then by rw [hji]; exact fun z => c98 z.2 else hnd j (by omega)⟩)))
            | (exact MV.weak [some (.ref a), some (.int (nI (8 + z))), some (.int (nI (8 + (i + 1))))] (by simp [leL, sto1, sto2, k2c, nI_1, Nat.add_assoc]) (ih (i + 1) _ (by omega) frK3.rf.w (Or.inl (hdup i (by omega) hok c83 c98))))
          · skip
            refine MV.aload_n dX12_lendLine_101 rfl ?_
            refine MV.iconst (v := 3) dX12_lendLine_102 (by decide) ?_
            refine MV.cV1 yoX12_wrong ml_X12_211 im_X12_wrong se_X12_wrong dX12_lendLine_103 rfl (Nat.le_of_ble_eq_true rfl) (by omega) rfl (Nat.le_of_ble_eq_true rfl) (wrong0_M (by omega) hok.2.2.2.2.2.2.2.1) ?_
            rintro _ _ ⟨rfl, rfl⟩
            refine MV.iinc (v := 1) dX12_lendLine_106 rfl (by decide) (by decide) rfl ?_
            refine MV.goto 59 dX12_lendLine_109 (by decide) ?_
            first
            | (exact MV.weak [some (.ref a), some (.int (nI (8 + z))), some (.int (nI (8 + (i + 1))))] (by simp [leL, sto1, sto2, k2c, nI_1, Nat.add_assoc]) (ih (i + 1) _ (by omega) frK3.rf (Or.inr ⟨rfl, hok, fun j hj => if hji : j = i then by rw [hji]; exact fun z => c83 z.1 else hnd j (by omega)⟩)))
            | (exact MV.weak [some (.ref a), some (.int (nI (8 + z))), some (.int (nI (8 + (i + 1))))] (by simp [leL, sto1, sto2, k2c, nI_1, Nat.add_assoc]) (ih (i + 1) _ (by omega) frK3.rf (Or.inr ⟨rfl, hok, fun j hj => if hji : j = i then by rw [hji]; exact fun z => c98 z.2 else hnd j (by omega)⟩)))
            | (exact MV.weak [some (.ref a), some (.int (nI (8 + z))), some (.int (nI (8 + (i + 1))))] (by simp [leL, sto1, sto2, k2c, nI_1, Nat.add_assoc]) (ih (i + 1) _ (by omega) frK3.rf.w (Or.inl (hdup i (by omega) hok c83 c98))))
  rcases hD5 with hD5 | ⟨hR5, ⟨j, hj1, hj2, hj3⟩, he5, ht5⟩
  · skip
    refine MV.aload_n dX12_lendLine_29 rfl ?_
    refine MV.getf 27 fl_X12_202 dX12_lendLine_30 (by decide) rfl ?_
    refine MV.if_ne 56 dX12_lendLine_33 (by decide) (fun _ => ?_) (fun z => absurd z (hD5.ne))
    refine MV.bipush (v := nI 8) dX12_lendLine_56 (by decide) ?_
    refine MV.istore_n dX12_lendLine_58 (by decide) rfl ?_
    exact MV.weak [some (.ref a), some (.int (nI (8 + z))), some (.int (nI (8 + 0)))] (by simp [leL, sto1, sto2, k2c]) (hloop z 0 _ (by omega) frK3.rf (Or.inl hD5))
  · skip
    have hjj : j0 = j := by rw [hj0, hj3]; exact nat_nI (by have := hnm.1; omega)
    rw [← hjj] at hj1 hj2 hj3
    have ht5 : tkS b n (mA s5 15 (8 + z) r2) (stepP b n (stepP b n S)).1 := by rw [he5]; exact ht5
    have hfi3 : (r = nI i0 ∧ i0 < P) := by
      rcases hD3 with hD3 | ⟨-, ⟨i, hi, hri, hfi⟩, -⟩
      · exact absurd (show s3.1 27 = 0 by have := ht5.2.2.2.2.1; rw [he5] at this; exact this) hD3.ne
      · have hii : i0 = i := by rw [hi0, hfi]; exact nat_nI (by have := hnm.1; omega)
        exact ⟨by rw [hii]; exact hri, by rw [hii]; exact hi⟩
    obtain ⟨hri, hiP⟩ := hfi3
    have a1 : (mA s5 15 (8 + z) r2).2.1 14 (8 + z) = r := by
      show uA s5.2.1 15 (8 + z) r2 14 (8 + z) = r
      rw [uA_ne (by decide), he5]
      show (if 8 + z = 8 + z then r else s3.2.1 14 (8 + z)) = r
      rw [if_pos rfl]
    have a2 : (mA s5 15 (8 + z) r2).2.1 15 (8 + z) = r2 := by show (if 8 + z = 8 + z then r2 else s5.2.1 15 (8 + z)) = r2; rw [if_pos rfl]
    by_cases hne : i0 = j0
    · skip
      have hsame : (mA s5 15 (8 + z) r2).2.1 14 (8 + z) = (mA s5 15 (8 + z) r2).2.1 15 (8 + z) := by rw [a1, a2, hri, hj2, hne]
      have hfl : FAILS (lineP b n S) (wS (mA s5 15 (8 + z) r2) 5) := by
        refine FAILS.w (S := (stepP b n (stepP b n S))) ?_ (by decide) ht5.1
        rw [hR5]
        unfold rLend2
        rw [← hi0, hj3, if_pos (by rw [hne, nat_nI (by have := hnm.1; omega)])]
      refine MV.aload_n dX12_lendLine_29 rfl ?_
      refine MV.getf 27 fl_X12_202 dX12_lendLine_30 (by decide) rfl ?_
      refine MV.if_ne 56 dX12_lendLine_33 (by decide) (fun z => absurd (ht5.2.2.2.2.1) z) (fun _ => ?_)
      refine MV.aload_n dX12_lendLine_36 rfl ?_
      refine MV.getf 14 fl_X12_46 dX12_lendLine_37 (by decide) rfl ?_
      refine MV.iload_n dX12_lendLine_40 rfl ?_
      refine MV.ald C12_in14 dX12_lendLine_41 (rfl) (by omega) (by decide) ?_
      refine MV.aload_n dX12_lendLine_42 rfl ?_
      refine MV.getf 15 fl_X12_49 dX12_lendLine_43 (by decide) rfl ?_
      refine MV.iload_n dX12_lendLine_46 rfl ?_
      refine MV.ald C12_in15 dX12_lendLine_47 (rfl) (by omega) (by decide) ?_
      refine MV.icmp_ne 56 dX12_lendLine_48 (by decide) (fun z => absurd (hsame) z) (fun _ => ?_)
      refine MV.aload_n dX12_lendLine_51 rfl ?_
      refine MV.iconst (v := 5) dX12_lendLine_52 (by decide) ?_
      refine MV.cV1 yoX12_wrong ml_X12_211 im_X12_wrong se_X12_wrong dX12_lendLine_53 rfl (Nat.le_of_ble_eq_true rfl) (by omega) rfl (Nat.le_of_ble_eq_true rfl) (wrong0_M (by omega) ht5.2.2.2.2.1) ?_
      rintro _ _ ⟨rfl, rfl⟩
      refine MV.bipush (v := nI 8) dX12_lendLine_56 (by decide) ?_
      refine MV.istore_n dX12_lendLine_58 (by decide) rfl ?_
      exact MV.weak [some (.ref a), some (.int (nI (8 + z))), some (.int (nI (8 + 0)))] (by simp [leL, sto1, sto2, k2c]) (hloop z 0 _ (by omega) frK3.rf.w (Or.inl hfl))
    · skip
      have hdiff : ¬ (mA s5 15 (8 + z) r2).2.1 14 (8 + z) = (mA s5 15 (8 + z) r2).2.1 15 (8 + z) := by rw [a1, a2, hri, hj2]; exact fun y => hne (nI_eq700 (by have := hnm.1; omega) (by have := hnm.1; omega) y)
      refine MV.aload_n dX12_lendLine_29 rfl ?_
      refine MV.getf 27 fl_X12_202 dX12_lendLine_30 (by decide) rfl ?_
      refine MV.if_ne 56 dX12_lendLine_33 (by decide) (fun z => absurd (ht5.2.2.2.2.1) z) (fun _ => ?_)
      refine MV.aload_n dX12_lendLine_36 rfl ?_
      refine MV.getf 14 fl_X12_46 dX12_lendLine_37 (by decide) rfl ?_
      refine MV.iload_n dX12_lendLine_40 rfl ?_
      refine MV.ald C12_in14 dX12_lendLine_41 (rfl) (by omega) (by decide) ?_
      refine MV.aload_n dX12_lendLine_42 rfl ?_
      refine MV.getf 15 fl_X12_49 dX12_lendLine_43 (by decide) rfl ?_
      refine MV.iload_n dX12_lendLine_46 rfl ?_
      refine MV.ald C12_in15 dX12_lendLine_47 (rfl) (by omega) (by decide) ?_
      refine MV.icmp_ne 56 dX12_lendLine_48 (by decide) (fun _ => ?_) (fun z => absurd z (hdiff))
      refine MV.bipush (v := nI 8) dX12_lendLine_56 (by decide) ?_
      refine MV.istore_n dX12_lendLine_58 (by decide) rfl ?_
      exact MV.weak [some (.ref a), some (.int (nI (8 + z))), some (.int (nI (8 + 0)))] (by simp [leL, sto1, sto2, k2c]) (hloop z 0 _ (by omega) frK3.rf (Or.inr ⟨rfl, ⟨by rw [hi0]; exact hR5, ⟨⟨hri, hiP⟩, ⟨hj2, hj1, hj3⟩, hne⟩, he5, ht5⟩, fun j hj => by omega⟩))
