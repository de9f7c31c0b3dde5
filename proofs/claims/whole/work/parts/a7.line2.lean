/-! A LINE of the model, whole -/
set_option maxRecDepth 100000 in
set_option maxHeartbeats 2000000 in
theorem lineEndL_M {d n0 a : Nat} {κ : Kd} {h0 : Hp} (hd : 8 ≤ d) {b : Nat → Int32} {n : Nat} {s0 s : St} {S : PS} (hf : frP s0 s) (hD : LT b n S s) : MV MX12_line (d, 0, 0, n0, κ) a h0 s 369 [some (.ref a), none, none, none, none] [] (LPo b n S s0) := by
  refine MV.aload_n dX12_line_369 rfl ?_
  refine MV.getf 27 fl_X12_202 dX12_line_370 (by decide) rfl ?_
  refine MV.if_eq 377 dX12_line_373 (by decide) (fun _ => ?_) (fun z => absurd (hD.2.2.2.1) z)
  refine MV.aload_n dX12_line_377 rfl ?_
  refine MV.bipush (v := 59) dX12_line_378 (by decide) ?_
  refine MV.cV1 yoX12_isSign ml_X12_258 im_X12_isSign se_X12_isSign dX12_line_380 rfl (Nat.le_of_ble_eq_true rfl) (by omega) rfl (Nat.le_of_ble_eq_true rfl) (isSign_M (by omega)) (MV.rdK ?_)
  refine MV.eqi 0 (bI_df (fun z => hD.2.2.2.2 z.2)) ?_
  refine MV.if_ne 394 dX12_line_383 (by decide) (fun z => absurd (rfl) z) (fun _ => ?_)
  refine MV.aload_n dX12_line_386 rfl ?_
  refine MV.iconst (v := 1) dX12_line_387 (by decide) ?_
  refine MV.cV1 yoX12_wrong ml_X12_211 im_X12_wrong se_X12_wrong dX12_line_388 rfl (Nat.le_of_ble_eq_true rfl) (by omega) rfl (Nat.le_of_ble_eq_true rfl) (wrong0_M (by omega) hD.2.2.2.1) ?_
  rintro _ _ ⟨rfl, rfl⟩
  refine MV.goto 398 dX12_line_391 (by decide) ?_
  refine MV.aload_n dX12_line_398 rfl ?_
  refine MV.dup dX12_line_399 rfl ?_
  refine MV.getf 21 fl_X12_261 dX12_line_400 (by decide) rfl ?_
  refine MV.iconst (v := 1) dX12_line_403 (by decide) ?_
  refine MV.iadd dX12_line_404 ?_
  refine MV.putf 21 fl_X12_261 dX12_line_405 (by decide) rfl (rfl) (rfl) C12_s21 ?_
  refine MV.vret dX12_line_408 rfl ?_
  exact ⟨rfl, (hf.w (c := 1)).i (by decide), Or.inl (by rw [oneP_f hD.1]; exact ⟨hD.1, by rw [hD.2.1]; decide, by rw [hD.2.1]; rfl, hD.2.2.1⟩)⟩
set_option maxRecDepth 100000 in
set_option maxHeartbeats 4000000 in
theorem lineJune_M {d n0 a : Nat} {κ : Kd} {h0 : Hp} (hd : 13 ≤ d) {b : Nat → Int32} {n : Nat} (hn : n ≤ 700) (hbb : ∀ k, k < n → ¬ b k = -1 ∧ b k < 256) {s0 s : St} {S : PS} (h : LQ b n S s0 s 1) (hk : S.1.2.1 = nI 1) (hfull : decide (s.2.1 3 9 = nI 12) = false) : MV MX12_line (d, 0, 0, n0, κ) a h0 s 95 [some (.ref a), some (.int (nI 1)), none, none, none] [] (LPo b n S s0) := by
  refine MV.iload_n dX12_line_95 rfl ?_
  refine MV.tswG [(0, 140), (1, 198), (2, 205), (3, 264), (4, 327), (5, 334), (6, 349)] 365 dX12_line_96 (by decide) (by decide +kernel) (fa_cons (fun cs96 => ?_) (fa_cons (fun cs96 => ?_) (fa_cons (fun cs96 => ?_) (fa_cons (fun cs96 => ?_) (fa_cons (fun cs96 => ?_) (fa_cons (fun cs96 => ?_) (fa_cons (fun cs96 => ?_) fa_nil))))))) (fun co96 => ?_)
  · skip
    exact absurd cs96 (by decide) --done
  · skip
    refine MV.aload_n dX12_line_198 rfl ?_
    refine MV.cV0 yoX12_juneLine ml_X12_246 im_X12_juneLine se_X12_juneLine dX12_line_199 rfl (Nat.le_of_ble_eq_true rfl) (by omega) rfl (Nat.le_of_ble_eq_true rfl) (juneLine_M (by omega) hn hbb h hk hfull) ?_
    rintro _ s2 ⟨rfl, hf2, h22, hD⟩
    refine MV.goto 369 dX12_line_202 (by decide) ?_
    exact MV.weak [some (.ref a), none, none, none, none] (by simp [leL, sto1, sto2, k2c]) (lineEnd_M (by omega) hn hbb hf2 h22 hD)
  · skip
    exact absurd cs96 (by decide) --done
  · skip
    exact absurd cs96 (by decide) --done
  · skip
    exact absurd cs96 (by decide) --done
  · skip
    exact absurd cs96 (by decide) --done
  · skip
    exact absurd cs96 (by decide) --done
  · skip
    exact absurd rfl (co96 (1, 198) (by simp)) --done
set_option maxRecDepth 100000 in
set_option maxHeartbeats 4000000 in
theorem lineLend_M {d n0 a : Nat} {κ : Kd} {h0 : Hp} (hd : 13 ≤ d) {b : Nat → Int32} {n : Nat} (hn : n ≤ 700) (hbb : ∀ k, k < n → ¬ b k = -1 ∧ b k < 256) {s0 s : St} {S : PS} (h : LQ b n S s0 s 4) (hk : S.1.2.1 = nI 4) (hfull : decide (s.2.1 3 12 = nI 8) = false) : MV MX12_line (d, 0, 0, n0, κ) a h0 s 95 [some (.ref a), some (.int (nI 4)), none, none, none] [] (LPo b n S s0) := by
  refine MV.iload_n dX12_line_95 rfl ?_
  refine MV.tswG [(0, 140), (1, 198), (2, 205), (3, 264), (4, 327), (5, 334), (6, 349)] 365 dX12_line_96 (by decide) (by decide +kernel) (fa_cons (fun cs96 => ?_) (fa_cons (fun cs96 => ?_) (fa_cons (fun cs96 => ?_) (fa_cons (fun cs96 => ?_) (fa_cons (fun cs96 => ?_) (fa_cons (fun cs96 => ?_) (fa_cons (fun cs96 => ?_) fa_nil))))))) (fun co96 => ?_)
  · skip
    exact absurd cs96 (by decide) --done
  · skip
    exact absurd cs96 (by decide) --done
  · skip
    exact absurd cs96 (by decide) --done
  · skip
    exact absurd cs96 (by decide) --done
  · skip
    refine MV.aload_n dX12_line_327 rfl ?_
    refine MV.cV0 yoX12_lendLine ml_X12_252 im_X12_lendLine se_X12_lendLine dX12_line_328 rfl (Nat.le_of_ble_eq_true rfl) (by omega) rfl (Nat.le_of_ble_eq_true rfl) (lendLine_M (by omega) hn hbb h hk hfull) ?_
    rintro _ s2 ⟨rfl, hf2, h22, hD⟩
    refine MV.goto 369 dX12_line_331 (by decide) ?_
    exact MV.weak [some (.ref a), none, none, none, none] (by simp [leL, sto1, sto2, k2c]) (lineEnd_M (by omega) hn hbb hf2 h22 hD)
  · skip
    exact absurd cs96 (by decide) --done
  · skip
    exact absurd cs96 (by decide) --done
  · skip
    exact absurd rfl (co96 (4, 327) (by simp)) --done
set_option maxRecDepth 100000 in
set_option maxHeartbeats 4000000 in
theorem lineLaw_M {d n0 a : Nat} {κ : Kd} {h0 : Hp} (hd : 142 ≤ d) {b : Nat → Int32} {n : Nat} (hn : n ≤ 700) (hbb : ∀ k, k < n → ¬ b k = -1 ∧ b k < 256) {s0 s : St} {S : PS} (h : LQ b n S s0 s 7) (hk : S.1.2.1 = nI 7)  : MV MX12_line (d, 0, 0, n0, κ) a h0 s 95 [some (.ref a), some (.int (nI 7)), none, none, none] [] (LPo b n S s0) := by
  refine MV.iload_n dX12_line_95 rfl ?_
  refine MV.tswG [(0, 140), (1, 198), (2, 205), (3, 264), (4, 327), (5, 334), (6, 349)] 365 dX12_line_96 (by decide) (by decide +kernel) (fa_cons (fun cs96 => ?_) (fa_cons (fun cs96 => ?_) (fa_cons (fun cs96 => ?_) (fa_cons (fun cs96 => ?_) (fa_cons (fun cs96 => ?_) (fa_cons (fun cs96 => ?_) (fa_cons (fun cs96 => ?_) fa_nil))))))) (fun co96 => ?_)
  · skip
    exact absurd cs96 (by decide) --done
  · skip
    exact absurd cs96 (by decide) --done
  · skip
    exact absurd cs96 (by decide) --done
  · skip
    exact absurd cs96 (by decide) --done
  · skip
    exact absurd cs96 (by decide) --done
  · skip
    exact absurd cs96 (by decide) --done
  · skip
    exact absurd cs96 (by decide) --done
  · skip
    refine MV.aload_n dX12_line_365 rfl ?_
    refine MV.cV0 yoX12_lawLine ml_X12_255 im_X12_lawLine se_X12_lawLine dX12_line_366 rfl (Nat.le_of_ble_eq_true rfl) (by omega) rfl (Nat.le_of_ble_eq_true rfl) (lawLine_M (by omega) hn hbb h hk) ?_
    rintro _ s2 ⟨rfl, hf2, h22, hD⟩
    exact MV.weak [some (.ref a), none, none, none, none] (by simp [leL, sto1, sto2, k2c]) (hD.elim (fun z => lineEnd_M (by omega) hn hbb hf2 h22 z) (fun z => lineEndL_M (by omega) hf2 z))
theorem full_w {s : St} : fullB s (nI 0) = decide (s.2.1 3 8 = nI 6) ∧ fullB s (nI 1) = decide (s.2.1 3 9 = nI 12) ∧ fullB s (nI 2) = decide (s.2.1 3 10 = nI 12) ∧ fullB s (nI 3) = decide (s.2.1 3 11 = nI 8) ∧ fullB s (nI 4) = decide (s.2.1 3 12 = nI 8) ∧ fullB s (nI 5) = false ∧ fullB s (nI 6) = false ∧ fullB s (nI 7) = false := by
  unfold fullB
  refine ⟨?_, ?_, ?_, ?_, ?_, ?_, ?_, ?_⟩
  · rw [if_pos (by decide)]; rfl
  · rw [if_neg (by decide), if_pos (by decide)]; rfl
  · rw [if_neg (by decide), if_neg (by decide), if_pos (by decide)]; rfl
  · rw [if_neg (by decide), if_neg (by decide), if_neg (by decide), if_pos (by decide)]; rfl
  · rw [if_neg (by decide), if_neg (by decide), if_neg (by decide), if_neg (by decide), if_pos (by decide)]; rfl
  · rw [if_neg (by decide), if_neg (by decide), if_neg (by decide), if_neg (by decide), if_neg (by decide)]
  · rw [if_neg (by decide), if_neg (by decide), if_neg (by decide), if_neg (by decide), if_neg (by decide)]
  · rw [if_neg (by decide), if_neg (by decide), if_neg (by decide), if_neg (by decide), if_neg (by decide)]
theorem nlt_self {x y : Int32} (h : x = y) : ¬ x < y := by rw [h]; exact Int32.lt_irrefl
theorem line_M {d n0 a : Nat} {κ : Kd} {h0 : Hp} (hd : 142 ≤ d) {b : Nat → Int32} {n : Nat} (hn : n ≤ 700) (hbb : ∀ k, k < n → ¬ b k = -1 ∧ b k < 256) {s : St} {S : PS} (h : relP b n s S) : MV MX12_line (d, 0, 0, n0, κ) a h0 s 0 [some (.ref a), none, none, none, none] [] (LPo b n S s) := by
  obtain ⟨g1, g2, g3, g4, g5, g6, g7⟩ := h.2.1
  by_cases hw : ∃ w, w < 8 ∧ S.1.2.1 = nI w
  · obtain ⟨w, hw8, hk⟩ := hw
    have h8 : w = 0 ∨ w = 1 ∨ w = 2 ∨ w = 3 ∨ w = 4 ∨ w = 5 ∨ w = 6 ∨ w = 7 := by omega
    · rcases h8 with rfl | rfl | rfl | rfl | rfl | rfl | rfl | rfl
      · have hfe := (full_w (s := s)).1
        cases hfu : decide (s.2.1 3 8 = nI 6) with
        | true => exact lineFull_M (by omega) h (by omega) hk (hfe.trans hfu) (by
          rw [lP_0 hk]
          unfold rPers
          rw [if_neg]
          rw [g1.1.2.1]
          exact nlt_self (of_decide_eq_true hfu))
        | false => exact linePre_M (by omega) hn hbb h (by omega) hk (hfe.trans hfu) (fun z => by omega) (fun s2 h1 h2 => lineMan_M (by omega) hn hbb (LQ.of h h1 h2) hk (by rw [h1.1]; exact hfu))
      · have hfe := (full_w (s := s)).2.1
        cases hfu : decide (s.2.1 3 9 = nI 12) with
        | true => exact lineFull_M (by omega) h (by omega) hk (hfe.trans hfu) (by
          rw [lP_1 hk]
          unfold rJune
          rw [if_neg]
          rw [g1.2.1.2.1]
          exact nlt_self (of_decide_eq_true hfu))
        | false => exact linePre_M (by omega) hn hbb h (by omega) hk (hfe.trans hfu) (fun z => by omega) (fun s2 h1 h2 => lineJune_M (by omega) hn hbb (LQ.of h h1 h2) hk (by rw [h1.1]; exact hfu))
      · have hfe := (full_w (s := s)).2.2.1
        cases hfu : decide (s.2.1 3 10 = nI 12) with
        | true => exact lineFull_M (by omega) h (by omega) hk (hfe.trans hfu) (by
          rw [lP_2 hk]
          unfold rLight
          rw [if_pos]
          unfold dFull
          rw [decide_eq_true]
          rw [g1.2.2.1.2.1, g5]
          exact nlt_self (of_decide_eq_true hfu))
        | false => exact linePre_M (by omega) hn hbb h (by omega) hk (hfe.trans hfu) (fun z => by omega) (fun s2 h1 h2 => lineLight_M (by omega) hn hbb (LQ.of h h1 h2) hk (by rw [h1.1]; exact hfu))
      · have hfe := (full_w (s := s)).2.2.2.1
        cases hfu : decide (s.2.1 3 11 = nI 8) with
        | true => exact lineFull_M (by omega) h (by omega) hk (hfe.trans hfu) (by
          rw [lP_3 hk]
          unfold rBlow
          rw [if_pos]
          unfold dFull
          rw [decide_eq_true]
          rw [g1.2.2.2.1.2.1, g6]
          exact nlt_self (of_decide_eq_true hfu))
        | false => exact linePre_M (by omega) hn hbb h (by omega) hk (hfe.trans hfu) (fun z => by omega) (fun s2 h1 h2 => lineBlow_M (by omega) hn hbb (LQ.of h h1 h2) hk (by rw [h1.1]; exact hfu))
      · have hfe := (full_w (s := s)).2.2.2.2.1
        cases hfu : decide (s.2.1 3 12 = nI 8) with
        | true => exact lineFull_M (by omega) h (by omega) hk (hfe.trans hfu) (by
          rw [lP_4 hk]
          unfold rLend
          rw [if_neg]
          rw [g1.2.2.2.2.1.2.1]
          exact nlt_self (of_decide_eq_true hfu))
        | false => exact linePre_M (by omega) hn hbb h (by omega) hk (hfe.trans hfu) (fun z => by omega) (fun s2 h1 h2 => lineLend_M (by omega) hn hbb (LQ.of h h1 h2) hk (by rw [h1.1]; exact hfu))
      · have hfe := (full_w (s := s)).2.2.2.2.2.1
        have hbt := h.2.2.1
        by_cases hz : S.2.1.1.1 12 = 0
        · exact linePre_M (by omega) hn hbb h (by omega) hk hfe (fun _ => by rw [hbt, decide_eq_false (fun z => z hz)]) (fun s2 h1 h2 => lineDraft_M (by omega) hn hbb (LQ.of h h1 h2) hk hz)
        · exact lineTold_M (by omega) h (by omega) hk hfe (by omega) (by rw [hbt, decide_eq_true hz]) (by
            rw [lP_5 hk]
            unfold rDraft
            rw [if_neg hz])
      · have hfe := (full_w (s := s)).2.2.2.2.2.2.1
        have hbt := h.2.2.2.1
        by_cases hz : S.2.1.1.1 13 = 0
        · exact linePre_M (by omega) hn hbb h (by omega) hk hfe (fun _ => by rw [hbt, decide_eq_false (fun z => z hz)]) (fun s2 h1 h2 => lineSeed_M (by omega) hn hbb (LQ.of h h1 h2) hk hz)
        · exact lineTold_M (by omega) h (by omega) hk hfe (by omega) (by rw [hbt, decide_eq_true hz]) (by
            rw [lP_6 hk]
            unfold rSeed
            rw [if_neg hz])
      · exact linePre_M (by omega) hn hbb h (by omega) hk (full_w (s := s)).2.2.2.2.2.2.2 (fun z => by omega) (fun s2 h1 h2 => lineLaw_M (by omega) hn hbb (LQ.of h h1 h2) hk)
  · exact lineNo_M (by omega) h (fun w hw8 hk => hw ⟨w, hw8, hk⟩)
