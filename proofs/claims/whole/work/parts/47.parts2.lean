/-! TextReading: parts and signs, go on -/
set_option maxRecDepth 100000 in
set_option maxHeartbeats 2000000 in
theorem part_V {d n0 : Nat} {κ : Kd} (hd : 5 ≤ d) {h : Hp} {a t tp n : Nat} {b : Nat → Int32} {S : PS} (HP : isP h a t tp n b S) (hs : sepP a t tp) (okQ : okE n S) {m : Bool} : V MX6_takesPart (d, 0, 0, n0, κ) 0 0 h 0 [some (.ref a), some (.int (bI m)), none] [] (fun v h' => v = some (.int (bI (partP m S).1)) ∧ isP h' a t tp n b (partP m S).2 ∧ ∀ x : Nat, ((x < a ∨ a + 23 ≤ x) ∧ (x < t ∨ t + 19 ≤ x)) → h' x = h x) := by
  obtain ⟨s, H, hr, e0, e1, e4, e5, e6, HK, HT, hb⟩ := id HP
  obtain ⟨sk, K, kr, k1, k2, k3, k4, k5⟩ := id HK
  obtain ⟨HT1, HT2, HT3, HT4⟩ := id HT
  have sp1 := hs.1
  have sp2 := hs.2.1
  have sp3 := hs.2.2
  have ho8 := okQ.2.2.2.2.2.2.2.2
  have hfr : ∀ x : Nat, ((x < a ∨ a + 23 ≤ x) ∧ (x < t ∨ t + 19 ≤ x)) → h x = h x := fun _ _ => rfl
  refine V.aload_n dX6_takesPart_0 rfl ?_
  refine V.getf okX6 2 fl_X6_18 dX6_takesPart_1 (by decide) H.1 rfl ?_
  refine V.getf okX7 3 fl_X6_43 dX6_takesPart_4 (by decide) K.1 rfl ?_
  rw [k3]
  refine V.istore_n dX6_takesPart_7 (by decide) rfl ?_
  refine V.iload_n dX6_takesPart_8 rfl ?_
  refine V.bipush (v := 31) dX6_takesPart_9 (by decide) ?_
  refine V.icmp_ne 46 dX6_takesPart_11 (by decide) (fun c11 => ?_) (fun c11 => ?_)
  · skip
    have q11 : ¬ S.1.2.1 = 31 := c11
    refine V.iload_n dX6_takesPart_46 rfl ?_
    refine V.bipush (v := 20) dX6_takesPart_47 (by decide) ?_
    refine V.icmp_ne 72 dX6_takesPart_49 (by decide) (fun c49 => ?_) (fun c49 => ?_)
    · skip
      have q49 : ¬ S.1.2.1 = 20 := c49
      rw [show partP m S = leafP S from by unfold partP; rw [if_neg q11, if_neg q49]]
      exact leaf_V (by omega) HP hs okQ
    · skip
      have q49 : S.1.2.1 = 20 := c49
      refine V.iload_n dX6_takesPart_52 rfl ?_
      refine V.if_eq 72 dX6_takesPart_53 (by decide) (fun c53 => ?_) (fun c53 => ?_)
      · skip
        have q53 : ¬ m = true := fun z => absurd (show bI m = 0 from c53) (by rw [z]; decide)
        rw [show partP m S = leafP S from by unfold partP; rw [if_neg q11, if_pos q49, if_neg q53]]
        exact leaf_V (by omega) HP hs okQ
      · skip
        have q53 : m = true := bI_t c53
        refine V.aload_n dX6_takesPart_56 rfl ?_
        refine V.cV0 (ci := 6) yoX6_takesKnot ml_X6_194 im_X6_takesKnot se_X6_takesKnot dX6_takesPart_57 rfl H.1 (Nat.le_of_ble_eq_true rfl) (by omega) ⟨Nat.le_refl _, Nat.le_refl _⟩ rfl (Nat.le_of_ble_eq_true rfl) (knot_V (S := S) (by omega) HP hs) ?_
        rintro _ h1 ⟨rfl, HP, oh1⟩
        have hfr : ∀ x : Nat, ((x < a ∨ a + 23 ≤ x) ∧ (x < t ∨ t + 19 ≤ x)) → h1 x = h x := fun x hx => (oh1 x hx).trans (hfr x hx)
        obtain ⟨s, H, hr, e0, e1, e4, e5, e6, HK, HT, hb⟩ := id HP
        obtain ⟨sk, K, kr, k1, k2, k3, k4, k5⟩ := id HK
        obtain ⟨HT1, HT2, HT3, HT4⟩ := id HT
        refine V.if_ne 65 dX6_takesPart_60 (by decide) (fun c60 => ?_) (fun c60 => ?_)
        · skip
          have q60 := knotP_t (bI_t c60)
          rw [q60.1] at HP
          have hK := okS_knot okQ q60.2
          obtain ⟨S1, hS1⟩ : ∃ x, x = setL S (lKnot (lawsOf S)) := ⟨_, rfl⟩
          have e1S : S1.1 = S.1 := by rw [hS1]; rfl
          have okS1 : okE n S1 := by rw [hS1]; exact hK.1
          have gap1 : gapS S1 := by rw [hS1]; exact hK.2
          rw [← hS1] at q60
          rw [← hS1] at HP
          obtain ⟨s, H, hr, e0, e1, e4, e5, e6, HK, HT, hb⟩ := id HP
          obtain ⟨sk, K, kr, k1, k2, k3, k4, k5⟩ := id HK
          obtain ⟨HT1, HT2, HT3, HT4⟩ := id HT
          refine V.aload_n dX6_takesPart_65 rfl ?_
          refine V.iload_n dX6_takesPart_66 rfl ?_
          refine V.eqi (y := 20) q49 ?_
          refine V.cV1 (ci := 6) yoX6_holdBack ml_X6_191 im_X6_holdBack se_X6_holdBack dX6_takesPart_67 rfl H.1 (Nat.le_of_ble_eq_true rfl) (by omega) ⟨Nat.le_refl _, Nat.le_refl _⟩ rfl (Nat.le_of_ble_eq_true rfl) (push_V (S := S1) (k := 20) (by omega) HP hs (okS_push (k := 20) okS1 gap1 (by decide)).1) ?_
          rintro _ h2 ⟨rfl, HP, oh2⟩
          have hfr : ∀ x : Nat, ((x < a ∨ a + 23 ≤ x) ∧ (x < t ∨ t + 19 ≤ x)) → h2 x = h x := fun x hx => (oh2 x hx).trans (hfr x hx)
          obtain ⟨s, H, hr, e0, e1, e4, e5, e6, HK, HT, hb⟩ := id HP
          obtain ⟨sk, K, kr, k1, k2, k3, k4, k5⟩ := id HK
          obtain ⟨HT1, HT2, HT3, HT4⟩ := id HT
          refine V.iconst (v := 1) dX6_takesPart_70 (by decide) ?_
          refine V.zret .boolean dX6_takesPart_71 rfl (rfl) ?_
          have hE : partP m S = (true, pushP 20 S1) := by unfold partP; rw [if_neg q11, if_pos q49, if_pos q53, bindP_k q60.1, not2]
          exact ⟨by rw [hE]; rfl, by rw [hE]; exact HP, hfr⟩
        · skip
          have q60 := bI_f c60
          refine V.iconst (v := 0) dX6_takesPart_63 (by decide) ?_
          refine V.zret .boolean dX6_takesPart_64 rfl (rfl) ?_
          have hE : partP m S = knotP S := by unfold partP; rw [if_neg q11, if_pos q49, if_pos q53, bindP_f q60]
          exact ⟨by rw [hE, q60]; rfl, by rw [hE]; exact HP, hfr⟩
  · skip
    have q11 : S.1.2.1 = 31 := c11
    refine V.aload_n dX6_takesPart_14 rfl ?_
    refine V.getf okX6 6 fl_X6_174 dX6_takesPart_15 (by decide) H.1 rfl ?_
    refine V.bipush (v := 8) dX6_takesPart_18 (by decide) ?_
    rw [e6]
    refine V.icmp_lt 29 dX6_takesPart_20 (by decide) (fun c20 => ?_) (fun c20 => ?_)
    · skip
      have q20 : S.2.2.2.2.2 < 8 := (nI_ltI (by omega) (by decide)).mp (show nI S.2.2.2.2.2 < nI 8 from c20)
      refine V.aload_n dX6_takesPart_29 rfl ?_
      refine V.dup dX6_takesPart_30 rfl ?_
      refine V.getf okX6 6 fl_X6_174 dX6_takesPart_31 (by decide) H.1 rfl ?_
      refine V.iconst (v := 1) dX6_takesPart_34 (by decide) ?_
      refine V.iadd dX6_takesPart_35 ?_
      refine V.putfH okX6 6 fl_X6_174 dX6_takesPart_36 (by decide) rfl H.1 (rfl) (rfl) (Nat.le_of_ble_eq_true rfl) (fun h3 eh3 oh3 => ?_)
      have H := isR.setI C6_ok H 6 _ (fun _ _ => rfl) eh3 oh3
      have K := K.kept C7_ok (fun b hb1 hb2 => oh3 b (by have hb3 : b < _ := hb2; simp only [C7] at hb3; omega))
      have HT1 := HT1.kept C8_ok (fun b hb1 hb2 => oh3 b (by have hb3 : b < _ := hb2; simp only [C8] at hb3; omega))
      have HT2 := HT2.kept C2_ok (fun b hb1 hb2 => oh3 b (by have hb3 : b < _ := hb2; simp only [C2] at hb3; omega))
      have HT3 := HT3.kept C2_ok (fun b hb1 hb2 => oh3 b (by have hb3 : b < _ := hb2; simp only [C2] at hb3; omega))
      have HT4 := HT4.kept (fun b hb1 hb2 => oh3 b (by omega))
      have hb := (oh3 _ (by omega)).trans hb
      have hfr : ∀ x : Nat, ((x < a ∨ a + 23 ≤ x) ∧ (x < t ∨ t + 19 ≤ x)) → h3 x = h x := fun x hx => (oh3 x (by omega)).trans (hfr x hx)
      have HP : isP _ a t tp n b (opnP S) := ⟨_, H, hr, e0, e1, e4, e5, by show s.1 6 + 1 = _; rw [e6]; exact nI_1 _, ⟨_, K, kr, k1, k2, k3, k4, k5⟩, ⟨HT1, HT2, HT3, HT4⟩, hb⟩
      obtain ⟨s, H, hr, e0, e1, e4, e5, e6, HK, HT, hb⟩ := id HP
      obtain ⟨sk, K, kr, k1, k2, k3, k4, k5⟩ := id HK
      obtain ⟨HT1, HT2, HT3, HT4⟩ := id HT
      refine V.aload_n dX6_takesPart_39 rfl ?_
      refine V.iload_n dX6_takesPart_40 rfl ?_
      refine V.eqi (y := 31) q11 ?_
      refine V.cV1 (ci := 6) yoX6_holdBack ml_X6_191 im_X6_holdBack se_X6_holdBack dX6_takesPart_41 rfl H.1 (Nat.le_of_ble_eq_true rfl) (by omega) ⟨Nat.le_refl _, Nat.le_refl _⟩ rfl (Nat.le_of_ble_eq_true rfl) (push_V (S := opnP S) (k := 31) (by omega) HP hs (okS_open okQ q20).1) ?_
      rintro _ h4 ⟨rfl, HP, oh4⟩
      have hfr : ∀ x : Nat, ((x < a ∨ a + 23 ≤ x) ∧ (x < t ∨ t + 19 ≤ x)) → h4 x = h x := fun x hx => (oh4 x hx).trans (hfr x hx)
      obtain ⟨s, H, hr, e0, e1, e4, e5, e6, HK, HT, hb⟩ := id HP
      obtain ⟨sk, K, kr, k1, k2, k3, k4, k5⟩ := id HK
      obtain ⟨HT1, HT2, HT3, HT4⟩ := id HT
      refine V.iconst (v := 1) dX6_takesPart_44 (by decide) ?_
      refine V.zret .boolean dX6_takesPart_45 rfl (rfl) ?_
      have hE : partP m S = (true, pushP 31 (opnP S)) := by unfold partP; rw [if_pos q11, if_pos q20]
      exact ⟨by rw [hE]; rfl, by rw [hE]; exact HP, hfr⟩
    · skip
      have q20 : ¬ S.2.2.2.2.2 < 8 := fun z => absurd (show nI S.2.2.2.2.2 < nI 8 from nI_lt z (by decide)) c20
      refine V.aload_n dX6_takesPart_23 rfl ?_
      refine V.iconst (v := 2) dX6_takesPart_24 (by decide) ?_
      refine V.cV1 (ci := 6) yoX6_fails ml_X6_60 im_X6_fails se_X6_fails dX6_takesPart_25 rfl H.1 (Nat.le_of_ble_eq_true rfl) (by omega) ⟨Nat.le_refl _, Nat.le_refl _⟩ rfl (Nat.le_of_ble_eq_true rfl) (fails_V (S := S) (k := 2) (by omega) HP hs) ?_
      rintro _ h5 ⟨rfl, HP, oh5⟩
      have hfr : ∀ x : Nat, ((x < a ∨ a + 23 ≤ x) ∧ (x < t ∨ t + 19 ≤ x)) → h5 x = h x := fun x hx => (oh5 x hx).trans (hfr x hx)
      obtain ⟨s, H, hr, e0, e1, e4, e5, e6, HK, HT, hb⟩ := id HP
      obtain ⟨sk, K, kr, k1, k2, k3, k4, k5⟩ := id HK
      obtain ⟨HT1, HT2, HT3, HT4⟩ := id HT
      refine V.zret .boolean dX6_takesPart_28 rfl (rfl) ?_
      have hE : partP m S = (false, failP 2 S) := by unfold partP; rw [if_pos q11, if_neg q20]
      exact ⟨by rw [hE]; rfl, by rw [hE]; exact HP, hfr⟩
set_option maxRecDepth 100000 in
set_option maxHeartbeats 2000000 in
theorem bin2_V {d n0 : Nat} {κ : Kd} (hd : 4 ≤ d) {h : Hp} {a t tp n : Nat} {b : Nat → Int32} {S : PS} (HP : isP h a t tp n b S) (hs : sepP a t tp) (okQ : okE n S) {k : Int32} {x3 : Option Value} (hk : ¬ k = 31) : V MX6_takesBinary (d, 0, 0, n0, κ) 0 0 h 62 [some (.ref a), some (.int (k)), some (.int (lvl k)), x3] [] (fun v h' => v = some (.int (bI (bin2 k S).1)) ∧ isP h' a t tp n b (bin2 k S).2 ∧ ∀ x : Nat, ((x < a ∨ a + 23 ≤ x) ∧ (x < t ∨ t + 19 ≤ x)) → h' x = h x) := by
  obtain ⟨s, H, hr, e0, e1, e4, e5, e6, HK, HT, hb⟩ := id HP
  obtain ⟨sk, K, kr, k1, k2, k3, k4, k5⟩ := id HK
  obtain ⟨HT1, HT2, HT3, HT4⟩ := id HT
  have sp1 := hs.1
  have sp2 := hs.2.1
  have sp3 := hs.2.2
  have hfr : ∀ x : Nat, ((x < a ∨ a + 23 ≤ x) ∧ (x < t ∨ t + 19 ≤ x)) → h x = h x := fun _ _ => rfl
  refine V.aload_n dX6_takesBinary_62 rfl ?_
  refine V.cV0 (ci := 6) yoX6_takesKnot ml_X6_194 im_X6_takesKnot se_X6_takesKnot dX6_takesBinary_63 rfl H.1 (Nat.le_of_ble_eq_true rfl) (by omega) ⟨Nat.le_refl _, Nat.le_refl _⟩ rfl (Nat.le_of_ble_eq_true rfl) (knot_V (S := S) (by omega) HP hs) ?_
  rintro _ h1 ⟨rfl, HP, oh1⟩
  have hfr : ∀ x : Nat, ((x < a ∨ a + 23 ≤ x) ∧ (x < t ∨ t + 19 ≤ x)) → h1 x = h x := fun x hx => (oh1 x hx).trans (hfr x hx)
  obtain ⟨s, H, hr, e0, e1, e4, e5, e6, HK, HT, hb⟩ := id HP
  obtain ⟨sk, K, kr, k1, k2, k3, k4, k5⟩ := id HK
  obtain ⟨HT1, HT2, HT3, HT4⟩ := id HT
  refine V.if_ne 71 dX6_takesBinary_66 (by decide) (fun c66 => ?_) (fun c66 => ?_)
  · skip
    have q66 := knotP_t (bI_t c66)
    rw [q66.1] at HP
    have hK := okS_knot okQ q66.2
    obtain ⟨S1, hS1⟩ : ∃ x, x = setL S (lKnot (lawsOf S)) := ⟨_, rfl⟩
    have e1S : S1.1 = S.1 := by rw [hS1]; rfl
    have okS1 : okE n S1 := by rw [hS1]; exact hK.1
    have gap1 : gapS S1 := by rw [hS1]; exact hK.2
    rw [← hS1] at q66
    rw [← hS1] at HP
    obtain ⟨s, H, hr, e0, e1, e4, e5, e6, HK, HT, hb⟩ := id HP
    obtain ⟨sk, K, kr, k1, k2, k3, k4, k5⟩ := id HK
    obtain ⟨HT1, HT2, HT3, HT4⟩ := id HT
    refine V.aload_n dX6_takesBinary_71 rfl ?_
    refine V.iload_n dX6_takesBinary_72 rfl ?_
    refine V.cV1 (ci := 6) yoX6_placeDownTo ml_X6_187 im_X6_placeDownTo se_X6_placeDownTo dX6_takesBinary_73 rfl H.1 (Nat.le_of_ble_eq_true rfl) (by omega) ⟨Nat.le_refl _, Nat.le_refl _⟩ rfl (Nat.le_of_ble_eq_true rfl) (placeP_V (S := S1) (lv := lvl k) (by omega) HP hs (lvl_pos hk).1 okS1) ?_
    rintro _ h2 ⟨rfl, HP, oh2⟩
    have hfr : ∀ x : Nat, ((x < a ∨ a + 23 ≤ x) ∧ (x < t ∨ t + 19 ≤ x)) → h2 x = h x := fun x hx => (oh2 x hx).trans (hfr x hx)
    obtain ⟨s, H, hr, e0, e1, e4, e5, e6, HK, HT, hb⟩ := id HP
    obtain ⟨sk, K, kr, k1, k2, k3, k4, k5⟩ := id HK
    obtain ⟨HT1, HT2, HT3, HT4⟩ := id HT
    refine V.aload_n dX6_takesBinary_76 rfl ?_
    refine V.iload_n dX6_takesBinary_77 rfl ?_
    refine V.cV1 (ci := 6) yoX6_holdBack ml_X6_191 im_X6_holdBack se_X6_holdBack dX6_takesBinary_78 rfl H.1 (Nat.le_of_ble_eq_true rfl) (by omega) ⟨Nat.le_refl _, Nat.le_refl _⟩ rfl (Nat.le_of_ble_eq_true rfl) (push_V (S := placeP (lvl k) S1) (k := k) (by omega) HP hs (okS_push (k := k) (okS_place (lvl_pos hk).1 okS1) (gapS_place (lvl_pos hk).1 okS1 gap1) hk).1) ?_
    rintro _ h3 ⟨rfl, HP, oh3⟩
    have hfr : ∀ x : Nat, ((x < a ∨ a + 23 ≤ x) ∧ (x < t ∨ t + 19 ≤ x)) → h3 x = h x := fun x hx => (oh3 x hx).trans (hfr x hx)
    obtain ⟨s, H, hr, e0, e1, e4, e5, e6, HK, HT, hb⟩ := id HP
    obtain ⟨sk, K, kr, k1, k2, k3, k4, k5⟩ := id HK
    obtain ⟨HT1, HT2, HT3, HT4⟩ := id HT
    refine V.iconst (v := 1) dX6_takesBinary_81 (by decide) ?_
    refine V.zret .boolean dX6_takesBinary_82 rfl (rfl) ?_
    have hE : bin2 k S = (true, pushP k (placeP (lvl k) S1)) := bindP_k q66.1
    exact ⟨by rw [hE]; rfl, by rw [hE]; exact HP, hfr⟩
  · skip
    have q66 := bI_f c66
    refine V.iconst (v := 0) dX6_takesBinary_69 (by decide) ?_
    refine V.zret .boolean dX6_takesBinary_70 rfl (rfl) ?_
    have hE : bin2 k S = knotP S := bindP_f q66
    exact ⟨by rw [hE, q66]; rfl, by rw [hE]; exact HP, hfr⟩
