/-! The model text: token walked -/
set_option maxRecDepth 100000 in
set_option maxHeartbeats 4000000 in
theorem token_M {d n0 a : Nat} {κ : Kd} {h0 : Hp} (hd : 7 ≤ d) {s : St} {n p : Nat} (e22 : s.1 22 = nI n) (e23 : s.1 23 = nI p) (hn : n ≤ 700) (hp : p ≤ n) (hbb : ∀ k, k < n → ¬ s.2.1 1 k = -1 ∧ s.2.1 1 k < 256) : MV MX12_token (d, 0, 0, n0, κ) a h0 s 0 [some (.ref a), none] [] (fun v s' => v = none ∧ tkR s s' (tkM (s.2.1 1) n p (s.1 26))) := by
  obtain ⟨q, hq⟩ : ∃ q, q = spF blkB (s.2.1 1) (n - p) p := ⟨_, rfl⟩
  have hqn : q ≤ n := by have := (spF_ge blkB (s.2.1 1) (n - p) p).2; omega
  unfold tkM
  rw [← hq]
  refine blanks_M (q := q) (by omega) e22 hn (fun s3 C => ?_) (n - p) p s (by omega) ⟨rfl, fun _ _ => rfl, e23⟩ hq.symm
  by_cases h : n ≤ q
  · skip
    refine MV.aload_n dX12_token_31 rfl ?_
    refine MV.aload_n dX12_token_32 rfl ?_
    refine MV.getf 23 fl_X12_154 dX12_token_33 (by decide) rfl ?_
    refine MV.putf 24 fl_X12_164 dX12_token_36 (by decide) rfl (rfl) (rfl) C12_s24 ?_
    refine MV.aload_n dX12_token_39 rfl ?_
    refine MV.cV0 yoX12_here ml_X12_160 im_X12_here se_X12_here dX12_token_40 rfl (Nat.le_of_ble_eq_true rfl) (by omega) rfl (Nat.le_of_ble_eq_true rfl) (here_M (s := mI s3 24 (s3.1 23)) (n := n) (p := q) (by omega) ((C.2.1 22 (by decide)).trans e22) C.2.2 hn hqn) (MV.rdK ?_)
    refine MV.eqi (-1) (sgA_ge h) ?_
    refine MV.istore_n dX12_token_43 (by decide) rfl ?_
    refine MV.iload_n dX12_token_44 rfl ?_
    refine MV.iconst (v := (-1)) dX12_token_45 (by decide) ?_
    refine MV.icmp_ne 57 dX12_token_46 (by decide) (fun z => absurd (rfl) z) (fun _ => ?_)
    refine MV.aload_n dX12_token_49 rfl ?_
    refine MV.iconst (v := 4) dX12_token_50 (by decide) ?_
    refine MV.putf 25 fl_X12_167 dX12_token_51 (by decide) rfl (rfl) (rfl) C12_s25 ?_
    refine MV.goto 225 dX12_token_54 (by decide) ?_
    refine MV.vret dX12_token_225 rfl ?_
    refine ⟨rfl, ?_⟩
    rw [tkQ, if_pos h]
    exact ⟨⟨C.1, fun j a b c e => (upd_ne c).trans ((upd_ne b).trans (C.2.1 j a))⟩, C.2.2, C.2.2, rfl, C.2.1 26 (by decide)⟩
  · skip
    refine MV.aload_n dX12_token_31 rfl ?_
    refine MV.aload_n dX12_token_32 rfl ?_
    refine MV.getf 23 fl_X12_154 dX12_token_33 (by decide) rfl ?_
    refine MV.putf 24 fl_X12_164 dX12_token_36 (by decide) rfl (rfl) (rfl) C12_s24 ?_
    refine MV.aload_n dX12_token_39 rfl ?_
    refine MV.cV0 yoX12_here ml_X12_160 im_X12_here se_X12_here dX12_token_40 rfl (Nat.le_of_ble_eq_true rfl) (by omega) rfl (Nat.le_of_ble_eq_true rfl) (here_M (s := mI s3 24 (s3.1 23)) (n := n) (p := q) (by omega) ((C.2.1 22 (by decide)).trans e22) C.2.2 hn hqn) (MV.rdK ?_)
    refine MV.eqi (s.2.1 1 q) ((sgA_lt (by omega)).trans (congrArg (fun z => z.1 1 q) C.1)) ?_
    refine MV.istore_n dX12_token_43 (by decide) rfl ?_
    refine MV.iload_n dX12_token_44 rfl ?_
    refine MV.iconst (v := (-1)) dX12_token_45 (by decide) ?_
    refine MV.icmp_ne 57 dX12_token_46 (by decide) (fun _ => ?_) (fun z => absurd z ((hbb q (by omega)).1))
    refine MV.iload_n dX12_token_57 rfl ?_
    refine MV.cS1 yoX12_isSmall ml_X12_170 st_X12_isSmall dX12_token_58 (Nat.le_of_ble_eq_true rfl) (by omega) rfl (Nat.le_of_ble_eq_true rfl) (fun h H => isSmall_V (by omega)) ?_
    refine MV.if_eq 145 dX12_token_61 (by decide) (fun c61 => ?_) (fun c61 => ?_)
    · skip
      have hl : letB (s.2.1 1 q) = false := bI_f c61
      refine MV.iload_n dX12_token_145 rfl ?_
      refine MV.cS1 yoX12_isDigit ml_X12_183 st_X12_isDigit dX12_token_146 (Nat.le_of_ble_eq_true rfl) (by omega) rfl (Nat.le_of_ble_eq_true rfl) (fun h H => isDigit_V (by omega)) ?_
      refine MV.if_eq 220 dX12_token_149 (by decide) (fun c149 => ?_) (fun c149 => ?_)
      · skip
        have hg : digB (s.2.1 1 q) = false := bI_f c149
        refine MV.aload_n dX12_token_220 rfl ?_
        refine MV.iload_n dX12_token_221 rfl ?_
        refine MV.cV1 yoX12_sign ml_X12_187 im_X12_sign se_X12_sign dX12_token_222 rfl (Nat.le_of_ble_eq_true rfl) (by omega) rfl (Nat.le_of_ble_eq_true rfl) (sign_M (s := mI s3 24 (s3.1 23)) (n := n) (p := q) (by omega) ((C.2.1 22 (by decide)).trans e22) C.2.2 hn (by omega) (hbb q (by omega)).2) ?_
        rintro _ s5 ⟨rfl, h2, h1, h3, h4, h5⟩
        refine MV.vret dX12_token_225 rfl ?_
        refine ⟨rfl, ?_⟩
        rw [tkQ, if_neg h, if_neg (by rw [hl]; decide), if_neg (by rw [hg]; decide)]
        have hsg : sgA ((mI s3 24 (s3.1 23)).2.1 1) n (q + 1) = sgA (s.2.1 1) n (q + 1) := congrArg (fun z => sgA (z.1 1) n (q + 1)) C.1
        rw [hsg] at h3 h5
        exact ⟨⟨h2.trans C.1, fun j a b c e => (h1 j a c e).trans ((upd_ne b).trans (C.2.1 j a))⟩, h3, (h1 24 (by decide) (by decide) (by decide)).trans C.2.2, h4, h5⟩
      · skip
        have hg : digB (s.2.1 1 q) = true := bI_t c149
        refine MV.aload_n dX12_token_152 rfl ?_
        refine MV.iconst (v := 2) dX12_token_153 (by decide) ?_
        refine MV.putf 25 fl_X12_167 dX12_token_154 (by decide) rfl (rfl) (rfl) C12_s25 ?_
        refine MV.aload_n dX12_token_157 rfl ?_
        refine MV.iconst (v := 0) dX12_token_158 (by decide) ?_
        refine MV.putf 26 fl_X12_177 dX12_token_159 (by decide) rfl (rfl) (rfl) C12_s26 ?_
        obtain ⟨e, hee⟩ : ∃ e, e = spF digB (s.2.1 1) (n - q) q := ⟨_, rfl⟩
        refine digits_M (s := mI (mI (mI s3 24 (s3.1 23)) 25 2) 26 0) (q0 := q) (e := e) (by omega) ((C.2.1 22 (by decide)).trans e22) hn (fun s5 C5 => ?_) (n - q) q 0 _ (by omega) rfl ⟨rfl, fun _ _ _ => rfl, C.2.2, rfl⟩ ((congrArg (fun z => spF digB (z.1 1) (n - q) q) C.1).trans hee.symm)
        refine MV.vret dX12_token_225 rfl ?_
        refine ⟨rfl, ?_⟩
        rw [tkQ, if_neg h, if_neg (by rw [hl]; decide), if_pos hg, ← hee]
        exact ⟨⟨C5.1.trans C.1, fun j a b c e => (C5.2.1 j a e).trans ((upd_ne e).trans ((upd_ne c).trans ((upd_ne b).trans (C.2.1 j a))))⟩, C5.2.2.1, (C5.2.1 24 (by decide) (by decide)).trans C.2.2, C5.2.1 25 (by decide) (by decide), C5.2.2.2.trans (congrArg (fun z => nuM (z.1 1) q (e - q)) C.1)⟩
    · skip
      have hl : letB (s.2.1 1 q) = true := bI_t c61
      obtain ⟨e, hee⟩ : ∃ e, e = spF letB (s.2.1 1) (n - q) q := ⟨_, rfl⟩
      have hqe : q ≤ e := by have := (spF_ge letB (s.2.1 1) (n - q) q).1; omega
      have hen : e ≤ n := by have := (spF_ge letB (s.2.1 1) (n - q) q).2; omega
      refine letters_M (s := mI s3 24 (s3.1 23)) (q := e) (by omega) ((C.2.1 22 (by decide)).trans e22) hn (fun s5 C5 => ?_) (n - q) q _ (by omega) ⟨rfl, fun _ _ => rfl, C.2.2⟩ ((congrArg (fun z => spF letB (z.1 1) (n - q) q) C.1).trans hee.symm)
      have hs5 : s5.2 = s.2 := C5.1.trans C.1
      have e24 : s5.1 24 = nI q := (C5.2.1 24 (by decide)).trans C.2.2
      refine MV.aload_n dX12_token_87 rfl ?_
      refine MV.aload_n dX12_token_88 rfl ?_
      refine MV.cV0 yoX12_word ml_X12_174 im_X12_word se_X12_word dX12_token_89 rfl (Nat.le_of_ble_eq_true rfl) (by omega) rfl (Nat.le_of_ble_eq_true rfl) (word_M (s := s5) (q := q) (e := e) (by omega) e24 C5.2.2 (by omega) hqe) (MV.rdK ?_)
      obtain ⟨WV, hWV⟩ : ∃ W, W = wdM (s.2.1 1) q e 21 0 := ⟨_, rfl⟩
      refine MV.eqi WV ((congrArg (fun z => wdM (z.1 1) q e 21 0) hs5).trans hWV.symm) ?_
      refine MV.putf 26 fl_X12_177 dX12_token_92 (by decide) rfl (rfl) (rfl) C12_s26 ?_
      refine MV.aload_n dX12_token_95 rfl ?_
      refine MV.aload_n dX12_token_96 rfl ?_
      refine MV.getf 26 fl_X12_177 dX12_token_97 (by decide) rfl ?_
      refine MV.iconst (v := (-1)) dX12_token_100 (by decide) ?_
      refine MV.icmp_eq 108 dX12_token_101 (by decide) (fun c101 => ?_) (fun c101 => ?_)
      · skip
        refine MV.aload_n dX12_token_108 rfl ?_
        refine MV.getf 23 fl_X12_154 dX12_token_109 (by decide) rfl ?_
        refine MV.aload_n dX12_token_112 rfl ?_
        refine MV.getf 24 fl_X12_164 dX12_token_113 (by decide) rfl ?_
        refine MV.isub dX12_token_116 ?_
        refine MV.eqi (nI (e - q)) (by rw [show (mI s5 26 WV).1 23 = nI e from C5.2.2, show (mI s5 26 WV).1 24 = nI q from e24]; exact nI_subI hqe) ?_
        refine MV.bipush (v := 6) dX12_token_117 (by decide) ?_
        refine MV.icmp_le 126 dX12_token_119 (by decide) (fun c119 => ?_) (fun c119 => ?_)
        · skip
          have h6 : ¬ 6 < e - q := fun z => nI_ge (a := 6) (b := e - q) z (by omega) c119
          have hT : tkQ (s.2.1 1) n q (s.1 26) = (e, q, 1, hoF (s.2.1 1) q e 6) := by
            rw [tkQ, if_neg h, if_pos hl, ← hee, ← hWV, if_neg (fun z => z (show WV = -1 from c101)), if_neg h6]
          refine MV.iconst (v := 1) dX12_token_126 (by decide) ?_
          refine MV.putf 25 fl_X12_167 dX12_token_127 (by decide) rfl (rfl) (rfl) C12_s25 ?_
          refine MV.aload_n dX12_token_130 rfl ?_
          refine MV.getf 25 fl_X12_167 dX12_token_131 (by decide) rfl ?_
          refine MV.iconst (v := 1) dX12_token_134 (by decide) ?_
          refine MV.icmp_ne 225 dX12_token_135 (by decide) (fun z => absurd (rfl) z) (fun _ => ?_)
          refine MV.aload_n dX12_token_138 rfl ?_
          refine MV.cV0 yoX12_name ml_X12_180 im_X12_name se_X12_name dX12_token_139 rfl (Nat.le_of_ble_eq_true rfl) (by omega) rfl (Nat.le_of_ble_eq_true rfl) (name_M (s := mI (mI s5 26 WV) 25 1) (q := q) (e := e) (by omega) e24 C5.2.2 (by omega) hqe) ?_
          rintro _ s6 ⟨rfl, h2, h1, h3⟩
          refine MV.goto 225 dX12_token_142 (by decide) ?_
          refine MV.vret dX12_token_225 rfl ?_
          have g2 := h2.trans hs5
          have g23 := (h1 23 (by decide)).trans C5.2.2
          have g24 := (h1 24 (by decide)).trans e24
          have g25 : s6.1 25 = 1 := h1 25 (by decide)
          have g26 : s6.1 26 = hoF (s.2.1 1) q e 6 := h3.trans (by rw [show (mI (mI s5 26 WV) 25 1).2 = s.2 from hs5])
          have gfr : ∀ j, j ≠ 23 → j ≠ 24 → j ≠ 25 → j ≠ 26 → s6.1 j = s.1 j := fun j a b c e => (h1 j e).trans ((fun j a b c e => ((upd_ne c).trans (upd_ne e)).trans ((C5.2.1 j a).trans ((upd_ne b).trans (C.2.1 j a)))) j a b c e)
          refine ⟨rfl, ?_⟩
          rw [hT]
          exact ⟨⟨g2, gfr⟩, g23, g24, g25, g26⟩
        · skip
          have h6 : 6 < e - q := Nat.not_le.mp fun z => c119 (nI_le (b := 6) z (by decide))
          have hT : tkQ (s.2.1 1) n q (s.1 26) = (e, q, 5, -1) := by
            rw [tkQ, if_neg h, if_pos hl, ← hee, ← hWV, if_neg (fun z => z (show WV = -1 from c101)), if_pos h6]
          refine MV.iconst (v := 5) dX12_token_122 (by decide) ?_
          refine MV.goto 127 dX12_token_123 (by decide) ?_
          refine MV.putf 25 fl_X12_167 dX12_token_127 (by decide) rfl (rfl) (rfl) C12_s25 ?_
          refine MV.aload_n dX12_token_130 rfl ?_
          refine MV.getf 25 fl_X12_167 dX12_token_131 (by decide) rfl ?_
          refine MV.iconst (v := 1) dX12_token_134 (by decide) ?_
          refine MV.icmp_ne 225 dX12_token_135 (by decide) (fun _ => ?_) (fun z => absurd z (show ¬ (5 : Int32) = 1 by decide))
          refine MV.vret dX12_token_225 rfl ?_
          refine ⟨rfl, ?_⟩
          rw [hT]
          exact ⟨⟨hs5, fun j a b c e => ((upd_ne c).trans (upd_ne e)).trans ((C5.2.1 j a).trans ((upd_ne b).trans (C.2.1 j a)))⟩, C5.2.2, e24, rfl, c101⟩
      · skip
        have hT : tkQ (s.2.1 1) n q (s.1 26) = (e, q, 0, WV) := by
          rw [tkQ, if_neg h, if_pos hl, ← hee, ← hWV, if_pos (show ¬ WV = -1 from c101)]
        refine MV.iconst (v := 0) dX12_token_104 (by decide) ?_
        refine MV.goto 127 dX12_token_105 (by decide) ?_
        refine MV.putf 25 fl_X12_167 dX12_token_127 (by decide) rfl (rfl) (rfl) C12_s25 ?_
        refine MV.aload_n dX12_token_130 rfl ?_
        refine MV.getf 25 fl_X12_167 dX12_token_131 (by decide) rfl ?_
        refine MV.iconst (v := 1) dX12_token_134 (by decide) ?_
        refine MV.icmp_ne 225 dX12_token_135 (by decide) (fun _ => ?_) (fun z => absurd z (show ¬ (0 : Int32) = 1 by decide))
        refine MV.vret dX12_token_225 rfl ?_
        refine ⟨rfl, ?_⟩
        rw [hT]
        exact ⟨⟨hs5, fun j a b c e => ((upd_ne c).trans (upd_ne e)).trans ((C5.2.1 j a).trans ((upd_ne b).trans (C.2.1 j a)))⟩, C5.2.2, e24, rfl, rfl⟩
