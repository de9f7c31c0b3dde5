/-! TextReading: LEND -/
def lendSet (s : St) (i j : Nat) : St := (upd s.1 6 (s.1 6 + 1), uA s.2.1 4 j (s.2.1 4 j ||| (1 <<< (nI i &&& 31))), s.2.2)
def rLend2 (b : Nat → Int32) (n i : Nat) (S : PS) : Bool × PS := if nI i = nI (nat (findP S)) then (false, failP 5 S) else if (S.2.1.1.2.1 4 (nat (findP S)) >>> (nI i &&& 31)) &&& 1 = 0 then (true, stepP b n (setT S (lendSet S.2.1.1 i (nat (findP S)), S.2.1.2))) else (false, failP 3 S)
def rLend1 (b : Nat → Int32) (n : Nat) (S : PS) : Bool × PS := bindP (persP (stepP b n S)) (rLend2 b n (nat (findP S)))
def rLend (b : Nat → Int32) (n : Nat) (S : PS) : Bool × PS := if S.2.1.1.1 6 < 8 then bindP (persP (stepP b n S)) (rLend1 b n) else (false, failP 2 S)
set_option maxRecDepth 100000 in
set_option maxHeartbeats 4000000 in
theorem rLend_V {d n0 : Nat} {κ : Kd} (hd : 6 ≤ d) {h : Hp} {a t tp n : Nat} {b : Nat → Int32} {S : PS} (HP : isP h a t tp n b S) (hs : sepP a t tp) (hn : n ≤ 700) (hbb : ∀ k, k < n → ¬ b k = -1) (okQ : okS n S) : V MX6_readLend (d, 0, 0, n0, κ) 0 0 h 0 [some (.ref a), none, none] [] (fun v h' => v = some (.int (bI (rLend b n S).1)) ∧ isP h' a t tp n b (rLend b n S).2 ∧ ∀ x : Nat, ((x < a ∨ a + 23 ≤ x) ∧ (x < t ∨ t + 19 ≤ x)) → h' x = h x) := by
  obtain ⟨s, H, hr, e0, e1, e4, e5, e6, HK, HT, hb⟩ := id HP
  obtain ⟨sk, K, kr, k1, k2, k3, k4, k5⟩ := id HK
  obtain ⟨HT1, HT2, HT3, HT4⟩ := id HT
  have sp1 := hs.1
  have sp2 := hs.2.1
  have sp3 := hs.2.2
  have hfr : ∀ x : Nat, ((x < a ∨ a + 23 ≤ x) ∧ (x < t ∨ t + 19 ≤ x)) → h x = h x := fun _ _ => rfl
  refine V.aload_n dX6_readLend_0 rfl ?_
  refine V.getf (v := .ref (t)) okX6 3 fl_X6_25 dX6_readLend_1 (by decide) H.1 (congrArg (fun z => some (Value.ref z)) (hr)) ?_
  refine V.getf okX8 6 fl_X6_132 dX6_readLend_4 (by decide) HT1.1 rfl ?_
  refine V.bipush (v := 8) dX6_readLend_7 (by decide) ?_
  refine V.icmp_lt 18 dX6_readLend_9 (by decide) (fun c9 => ?_) (fun c9 => ?_)
  · skip
    have q9 : S.2.1.1.1 6 < 8 := c9
    refine V.aload_n dX6_readLend_18 rfl ?_
    refine V.getf okX6 2 fl_X6_18 dX6_readLend_19 (by decide) H.1 rfl ?_
    refine V.cV0 (ci := 7) yoX7_step ml_X6_54 im_X7_step se_X7_step dX6_readLend_22 rfl K.1 (Nat.le_of_ble_eq_true rfl) (by omega) ⟨Nat.le_refl _, Nat.le_refl _⟩ rfl (Nat.le_of_ble_eq_true rfl) (stepP_V (S := S) (by omega) HP hs hn hbb okQ.1) ?_
    rintro _ h1 ⟨rfl, HP, oh1⟩
    have hfr : ∀ x : Nat, ((x < a ∨ a + 23 ≤ x) ∧ (x < t ∨ t + 19 ≤ x)) → h1 x = h x := fun x hx => (oh1 x hx).trans (hfr x hx)
    obtain ⟨s, H, hr, e0, e1, e4, e5, e6, HK, HT, hb⟩ := id HP
    obtain ⟨sk, K, kr, k1, k2, k3, k4, k5⟩ := id HK
    obtain ⟨HT1, HT2, HT3, HT4⟩ := id HT
    obtain ⟨S1, hS1⟩ : ∃ x, x = stepP b n S := ⟨_, rfl⟩
    rw [← hS1] at HP
    have okS1 : okS n S1 := by rw [hS1]; exact okS_step okQ
    obtain ⟨s, H, hr, e0, e1, e4, e5, e6, HK, HT, hb⟩ := id HP
    obtain ⟨sk, K, kr, k1, k2, k3, k4, k5⟩ := id HK
    obtain ⟨HT1, HT2, HT3, HT4⟩ := id HT
    refine V.aload_n dX6_readLend_25 rfl ?_
    refine V.cV0 (ci := 6) yoX6_isPersonTold ml_X6_113 im_X6_isPersonTold se_X6_isPersonTold dX6_readLend_26 rfl H.1 (Nat.le_of_ble_eq_true rfl) (by omega) ⟨Nat.le_refl _, Nat.le_refl _⟩ rfl (Nat.le_of_ble_eq_true rfl) (isPerson_V (S := S1) (by omega) HP hs okS1.2.1) ?_
    rintro _ h2 ⟨rfl, HP, oh2⟩
    have hfr : ∀ x : Nat, ((x < a ∨ a + 23 ≤ x) ∧ (x < t ∨ t + 19 ≤ x)) → h2 x = h x := fun x hx => (oh2 x hx).trans (hfr x hx)
    obtain ⟨s, H, hr, e0, e1, e4, e5, e6, HK, HT, hb⟩ := id HP
    obtain ⟨sk, K, kr, k1, k2, k3, k4, k5⟩ := id HK
    obtain ⟨HT1, HT2, HT3, HT4⟩ := id HT
    refine V.if_ne 34 dX6_readLend_29 (by decide) (fun c29 => ?_) (fun c29 => ?_)
    · skip
      have q29 := persP_t (bI_t c29)
      rw [q29.1] at HP
      obtain ⟨s, H, hr, e0, e1, e4, e5, e6, HK, HT, hb⟩ := id HP
      obtain ⟨sk, K, kr, k1, k2, k3, k4, k5⟩ := id HK
      obtain ⟨HT1, HT2, HT3, HT4⟩ := id HT
      refine V.aload_n dX6_readLend_34 rfl ?_
      refine V.getf (v := .ref (t)) okX6 3 fl_X6_25 dX6_readLend_35 (by decide) H.1 (congrArg (fun z => some (Value.ref z)) (hr)) ?_
      refine V.aload_n dX6_readLend_38 rfl ?_
      refine V.getf okX6 2 fl_X6_18 dX6_readLend_39 (by decide) H.1 rfl ?_
      refine V.getf okX7 5 fl_X6_63 dX6_readLend_42 (by decide) K.1 rfl ?_
      rw [k5]
      refine V.cV1 (ci := 8) yoX8_find ml_X6_66 im_X8_find se_X8_find dX6_readLend_45 rfl HT1.1 (Nat.le_of_ble_eq_true rfl) (by omega) ⟨Nat.le_refl _, Nat.le_refl _⟩ rfl (Nat.le_of_ble_eq_true rfl) (tFind_V (by omega) HT1 okS1.2.1.1 (by have := okS1.2.1.2; omega)) (V.rdK ?_)
      have hi6 : nat (findP S1) < 6 := by have h1 := (findP_ok okS1 q29.2.2).2; have h2 := okS1.2.1.2; omega
      refine V.eqi (y := nI (nat (findP S1))) (findP_ok okS1 q29.2.2).1 ?_
      refine V.istore_n dX6_readLend_48 (by decide) rfl ?_
      refine V.aload_n dX6_readLend_49 rfl ?_
      refine V.getf okX6 2 fl_X6_18 dX6_readLend_50 (by decide) H.1 rfl ?_
      refine V.cV0 (ci := 7) yoX7_step ml_X6_54 im_X7_step se_X7_step dX6_readLend_53 rfl K.1 (Nat.le_of_ble_eq_true rfl) (by omega) ⟨Nat.le_refl _, Nat.le_refl _⟩ rfl (Nat.le_of_ble_eq_true rfl) (stepP_V (S := S1) (by omega) HP hs hn hbb okS1.1) ?_
      rintro _ h3 ⟨rfl, HP, oh3⟩
      have hfr : ∀ x : Nat, ((x < a ∨ a + 23 ≤ x) ∧ (x < t ∨ t + 19 ≤ x)) → h3 x = h x := fun x hx => (oh3 x hx).trans (hfr x hx)
      obtain ⟨s, H, hr, e0, e1, e4, e5, e6, HK, HT, hb⟩ := id HP
      obtain ⟨sk, K, kr, k1, k2, k3, k4, k5⟩ := id HK
      obtain ⟨HT1, HT2, HT3, HT4⟩ := id HT
      obtain ⟨S2, hS2⟩ : ∃ x, x = stepP b n S1 := ⟨_, rfl⟩
      rw [← hS2] at HP
      have okS2 : okS n S2 := by rw [hS2]; exact okS_step okS1
      obtain ⟨s, H, hr, e0, e1, e4, e5, e6, HK, HT, hb⟩ := id HP
      obtain ⟨sk, K, kr, k1, k2, k3, k4, k5⟩ := id HK
      obtain ⟨HT1, HT2, HT3, HT4⟩ := id HT
      refine V.aload_n dX6_readLend_56 rfl ?_
      refine V.cV0 (ci := 6) yoX6_isPersonTold ml_X6_113 im_X6_isPersonTold se_X6_isPersonTold dX6_readLend_57 rfl H.1 (Nat.le_of_ble_eq_true rfl) (by omega) ⟨Nat.le_refl _, Nat.le_refl _⟩ rfl (Nat.le_of_ble_eq_true rfl) (isPerson_V (S := S2) (by omega) HP hs okS2.2.1) ?_
      rintro _ h4 ⟨rfl, HP, oh4⟩
      have hfr : ∀ x : Nat, ((x < a ∨ a + 23 ≤ x) ∧ (x < t ∨ t + 19 ≤ x)) → h4 x = h x := fun x hx => (oh4 x hx).trans (hfr x hx)
      obtain ⟨s, H, hr, e0, e1, e4, e5, e6, HK, HT, hb⟩ := id HP
      obtain ⟨sk, K, kr, k1, k2, k3, k4, k5⟩ := id HK
      obtain ⟨HT1, HT2, HT3, HT4⟩ := id HT
      refine V.if_ne 65 dX6_readLend_60 (by decide) (fun c60 => ?_) (fun c60 => ?_)
      · skip
        have q60 := persP_t (bI_t c60)
        rw [q60.1] at HP
        obtain ⟨s, H, hr, e0, e1, e4, e5, e6, HK, HT, hb⟩ := id HP
        obtain ⟨sk, K, kr, k1, k2, k3, k4, k5⟩ := id HK
        obtain ⟨HT1, HT2, HT3, HT4⟩ := id HT
        refine V.aload_n dX6_readLend_65 rfl ?_
        refine V.getf (v := .ref (t)) okX6 3 fl_X6_25 dX6_readLend_66 (by decide) H.1 (congrArg (fun z => some (Value.ref z)) (hr)) ?_
        refine V.aload_n dX6_readLend_69 rfl ?_
        refine V.getf okX6 2 fl_X6_18 dX6_readLend_70 (by decide) H.1 rfl ?_
        refine V.getf okX7 5 fl_X6_63 dX6_readLend_73 (by decide) K.1 rfl ?_
        rw [k5]
        refine V.cV1 (ci := 8) yoX8_find ml_X6_66 im_X8_find se_X8_find dX6_readLend_76 rfl HT1.1 (Nat.le_of_ble_eq_true rfl) (by omega) ⟨Nat.le_refl _, Nat.le_refl _⟩ rfl (Nat.le_of_ble_eq_true rfl) (tFind_V (by omega) HT1 okS2.2.1.1 (by have := okS2.2.1.2; omega)) (V.rdK ?_)
        have hj6 : nat (findP S2) < 6 := by have h1 := (findP_ok okS2 q60.2.2).2; have h2 := okS2.2.1.2; omega
        refine V.eqi (y := nI (nat (findP S2))) (findP_ok okS2 q60.2.2).1 ?_
        refine V.istore_n dX6_readLend_79 (by decide) rfl ?_
        refine V.iload_n dX6_readLend_80 rfl ?_
        refine V.iload_n dX6_readLend_81 rfl ?_
        refine V.icmp_ne 91 dX6_readLend_82 (by decide) (fun c82 => ?_) (fun c82 => ?_)
        · skip
          have q82 : ¬ nI (nat (findP S1)) = nI (nat (findP S2)) := c82
          refine V.aload_n dX6_readLend_91 rfl ?_
          refine V.getf (v := .ref (t)) okX6 3 fl_X6_25 dX6_readLend_92 (by decide) H.1 (congrArg (fun z => some (Value.ref z)) (hr)) ?_
          refine V.getf okX8 4 fl_X6_135 dX6_readLend_95 (by decide) HT1.1 rfl ?_
          refine V.iload_n dX6_readLend_98 rfl ?_
          refine V.ialdN dX6_readLend_99 (C8_r4 HT1) (rfl) (by omega) (by decide) ?_
          refine V.iload_n dX6_readLend_100 rfl ?_
          refine V.ishr dX6_readLend_101 ?_
          refine V.iconst (v := 1) dX6_readLend_102 (by decide) ?_
          refine V.iand dX6_readLend_103 ?_
          refine V.if_eq 113 dX6_readLend_104 (by decide) (fun c104 => ?_) (fun c104 => ?_)
          · skip
            have q104 : (S2.2.1.1.2.1 4 (nat (findP S2)) >>> (nI (nat (findP S1)) &&& 31)) &&& 1 = 0 := c104
            refine V.aload_n dX6_readLend_113 rfl ?_
            refine V.getf (v := .ref (t)) okX6 3 fl_X6_25 dX6_readLend_114 (by decide) H.1 (congrArg (fun z => some (Value.ref z)) (hr)) ?_
            refine V.getf okX8 4 fl_X6_135 dX6_readLend_117 (by decide) HT1.1 rfl ?_
            refine V.iload_n dX6_readLend_120 rfl ?_
            refine V.dup2 dX6_readLend_121 rfl rfl ?_
            refine V.ialdN dX6_readLend_122 (C8_r4 HT1) (rfl) (by omega) (by decide) ?_
            refine V.iconst (v := 1) dX6_readLend_123 (by decide) ?_
            refine V.iload_n dX6_readLend_124 rfl ?_
            refine V.ishl dX6_readLend_125 ?_
            refine V.ior dX6_readLend_126 ?_
            refine V.iastH dX6_readLend_127 (C8_r4 HT1) (rfl) (by omega) (by decide) (fun h5 eh5 oh5 => ?_)
            have HT1 := isR.setA C8_ok HT1 C8_in4 (by decide) _ _ eh5 oh5
            have H := C6_kept H (oh5 _ (by omega)) (oh5 _ (by omega))
            have K := K.kept C7_ok (fun b hb1 hb2 => oh5 b (by have hb3 : b < _ := hb2; simp only [C7] at hb3; omega))
            have HT2 := HT2.kept C2_ok (fun b hb1 hb2 => oh5 b (by have hb3 : b < _ := hb2; simp only [C2] at hb3; omega))
            have HT3 := HT3.kept C2_ok (fun b hb1 hb2 => oh5 b (by have hb3 : b < _ := hb2; simp only [C2] at hb3; omega))
            have HT4 := HT4.kept (fun b hb1 hb2 => oh5 b (by omega))
            have hb := (oh5 _ (by omega)).trans hb
            have hfr : ∀ x : Nat, ((x < a ∨ a + 23 ≤ x) ∧ (x < t ∨ t + 19 ≤ x)) → h5 x = h x := fun x hx => (oh5 x (by omega)).trans (hfr x hx)
            refine V.aload_n dX6_readLend_128 rfl ?_
            refine V.getf (v := .ref (t)) okX6 3 fl_X6_25 dX6_readLend_129 (by decide) H.1 (congrArg (fun z => some (Value.ref z)) (hr)) ?_
            refine V.dup dX6_readLend_132 rfl ?_
            refine V.getf okX8 6 fl_X6_132 dX6_readLend_133 (by decide) HT1.1 rfl ?_
            refine V.iconst (v := 1) dX6_readLend_136 (by decide) ?_
            refine V.iadd dX6_readLend_137 ?_
            refine V.putfH okX8 6 fl_X6_132 dX6_readLend_138 (by decide) rfl HT1.1 (rfl) (rfl) (Nat.le_of_ble_eq_true rfl) (fun h6 eh6 oh6 => ?_)
            have HT1 := isR.setI C8_ok HT1 6 _ (fun _ _ => rfl) eh6 oh6
            have H := C6_kept H (oh6 _ (by omega)) (oh6 _ (by omega))
            have K := K.kept C7_ok (fun b hb1 hb2 => oh6 b (by have hb3 : b < _ := hb2; simp only [C7] at hb3; omega))
            have HT2 := HT2.kept C2_ok (fun b hb1 hb2 => oh6 b (by have hb3 : b < _ := hb2; simp only [C2] at hb3; omega))
            have HT3 := HT3.kept C2_ok (fun b hb1 hb2 => oh6 b (by have hb3 : b < _ := hb2; simp only [C2] at hb3; omega))
            have HT4 := HT4.kept (fun b hb1 hb2 => oh6 b (by omega))
            have hb := (oh6 _ (by omega)).trans hb
            have hfr : ∀ x : Nat, ((x < a ∨ a + 23 ≤ x) ∧ (x < t ∨ t + 19 ≤ x)) → h6 x = h x := fun x hx => (oh6 x (by omega)).trans (hfr x hx)
            have HP : isP _ a t tp n b (setT S2 (lendSet S2.2.1.1 (nat (findP S1)) (nat (findP S2)), S2.2.1.2)) := ⟨_, H, hr, e0, e1, e4, e5, e6, ⟨_, K, kr, k1, k2, k3, k4, k5⟩, ⟨HT1, HT2, HT3, HT4⟩, hb⟩
            obtain ⟨S3, hS3⟩ : ∃ x, x = setT S2 (lendSet S2.2.1.1 (nat (findP S1)) (nat (findP S2)), S2.2.1.2) := ⟨_, rfl⟩
            rw [← hS3] at HP
            have okS3 : okS n S3 := by rw [hS3]; exact okS2
            obtain ⟨s, H, hr, e0, e1, e4, e5, e6, HK, HT, hb⟩ := id HP
            obtain ⟨sk, K, kr, k1, k2, k3, k4, k5⟩ := id HK
            obtain ⟨HT1, HT2, HT3, HT4⟩ := id HT
            refine V.aload_n dX6_readLend_141 rfl ?_
            refine V.getf okX6 2 fl_X6_18 dX6_readLend_142 (by decide) H.1 rfl ?_
            refine V.cV0 (ci := 7) yoX7_step ml_X6_54 im_X7_step se_X7_step dX6_readLend_145 rfl K.1 (Nat.le_of_ble_eq_true rfl) (by omega) ⟨Nat.le_refl _, Nat.le_refl _⟩ rfl (Nat.le_of_ble_eq_true rfl) (stepP_V (S := S3) (by omega) HP hs hn hbb okS3.1) ?_
            rintro _ h7 ⟨rfl, HP, oh7⟩
            have hfr : ∀ x : Nat, ((x < a ∨ a + 23 ≤ x) ∧ (x < t ∨ t + 19 ≤ x)) → h7 x = h x := fun x hx => (oh7 x hx).trans (hfr x hx)
            obtain ⟨s, H, hr, e0, e1, e4, e5, e6, HK, HT, hb⟩ := id HP
            obtain ⟨sk, K, kr, k1, k2, k3, k4, k5⟩ := id HK
            obtain ⟨HT1, HT2, HT3, HT4⟩ := id HT
            skip
            refine V.iconst (v := 1) dX6_readLend_148 (by decide) ?_
            refine V.zret .boolean dX6_readLend_149 rfl (rfl) ?_
            have hE : rLend b n S = (true, stepP b n S3) := by unfold rLend; rw [if_pos q9, ← hS1, bindP_k q29.1, rLend1, ← hS2, bindP_k q60.1, rLend2, if_neg q82, if_pos q104, ← hS3]
            exact ⟨by rw [hE]; rfl, by rw [hE]; exact HP, hfr⟩
          · skip
            have q104 : ¬ (S2.2.1.1.2.1 4 (nat (findP S2)) >>> (nI (nat (findP S1)) &&& 31)) &&& 1 = 0 := c104
            refine V.aload_n dX6_readLend_107 rfl ?_
            refine V.iconst (v := 3) dX6_readLend_108 (by decide) ?_
            refine V.cV1 (ci := 6) yoX6_fails ml_X6_60 im_X6_fails se_X6_fails dX6_readLend_109 rfl H.1 (Nat.le_of_ble_eq_true rfl) (by omega) ⟨Nat.le_refl _, Nat.le_refl _⟩ rfl (Nat.le_of_ble_eq_true rfl) (fails_V (S := S2) (k := 3) (by omega) HP hs) ?_
            rintro _ h8 ⟨rfl, HP, oh8⟩
            have hfr : ∀ x : Nat, ((x < a ∨ a + 23 ≤ x) ∧ (x < t ∨ t + 19 ≤ x)) → h8 x = h x := fun x hx => (oh8 x hx).trans (hfr x hx)
            obtain ⟨s, H, hr, e0, e1, e4, e5, e6, HK, HT, hb⟩ := id HP
            obtain ⟨sk, K, kr, k1, k2, k3, k4, k5⟩ := id HK
            obtain ⟨HT1, HT2, HT3, HT4⟩ := id HT
            refine V.zret .boolean dX6_readLend_112 rfl (rfl) ?_
            have hE : rLend b n S = (false, failP 3 S2) := by unfold rLend; rw [if_pos q9, ← hS1, bindP_k q29.1, rLend1, ← hS2, bindP_k q60.1, rLend2, if_neg q82, if_neg q104]
            exact ⟨by rw [hE]; rfl, by rw [hE]; exact HP, hfr⟩
        · skip
          have q82 : nI (nat (findP S1)) = nI (nat (findP S2)) := c82
          refine V.aload_n dX6_readLend_85 rfl ?_
          refine V.iconst (v := 5) dX6_readLend_86 (by decide) ?_
          refine V.cV1 (ci := 6) yoX6_fails ml_X6_60 im_X6_fails se_X6_fails dX6_readLend_87 rfl H.1 (Nat.le_of_ble_eq_true rfl) (by omega) ⟨Nat.le_refl _, Nat.le_refl _⟩ rfl (Nat.le_of_ble_eq_true rfl) (fails_V (S := S2) (k := 5) (by omega) HP hs) ?_
          rintro _ h9 ⟨rfl, HP, oh9⟩
          have hfr : ∀ x : Nat, ((x < a ∨ a + 23 ≤ x) ∧ (x < t ∨ t + 19 ≤ x)) → h9 x = h x := fun x hx => (oh9 x hx).trans (hfr x hx)
          obtain ⟨s, H, hr, e0, e1, e4, e5, e6, HK, HT, hb⟩ := id HP
          obtain ⟨sk, K, kr, k1, k2, k3, k4, k5⟩ := id HK
          obtain ⟨HT1, HT2, HT3, HT4⟩ := id HT
          refine V.zret .boolean dX6_readLend_90 rfl (rfl) ?_
          have hE : rLend b n S = (false, failP 5 S2) := by unfold rLend; rw [if_pos q9, ← hS1, bindP_k q29.1, rLend1, ← hS2, bindP_k q60.1, rLend2, if_pos q82]
          exact ⟨by rw [hE]; rfl, by rw [hE]; exact HP, hfr⟩
      · skip
        have q60 := bI_f c60
        refine V.iconst (v := 0) dX6_readLend_63 (by decide) ?_
        refine V.zret .boolean dX6_readLend_64 rfl (rfl) ?_
        have hE : rLend b n S = persP S2 := by unfold rLend; rw [if_pos q9, ← hS1, bindP_k q29.1, rLend1, ← hS2, bindP_f q60]
        exact ⟨by rw [hE, q60]; rfl, by rw [hE]; exact HP, hfr⟩
    · skip
      have q29 := bI_f c29
      refine V.iconst (v := 0) dX6_readLend_32 (by decide) ?_
      refine V.zret .boolean dX6_readLend_33 rfl (rfl) ?_
      have hE : rLend b n S = persP S1 := by unfold rLend; rw [if_pos q9, ← hS1, bindP_f q29]
      exact ⟨by rw [hE, q29]; rfl, by rw [hE]; exact HP, hfr⟩
  · skip
    have q9 : ¬ S.2.1.1.1 6 < 8 := c9
    refine V.aload_n dX6_readLend_12 rfl ?_
    refine V.iconst (v := 2) dX6_readLend_13 (by decide) ?_
    refine V.cV1 (ci := 6) yoX6_fails ml_X6_60 im_X6_fails se_X6_fails dX6_readLend_14 rfl H.1 (Nat.le_of_ble_eq_true rfl) (by omega) ⟨Nat.le_refl _, Nat.le_refl _⟩ rfl (Nat.le_of_ble_eq_true rfl) (fails_V (S := S) (k := 2) (by omega) HP hs) ?_
    rintro _ h10 ⟨rfl, HP, oh10⟩
    have hfr : ∀ x : Nat, ((x < a ∨ a + 23 ≤ x) ∧ (x < t ∨ t + 19 ≤ x)) → h10 x = h x := fun x hx => (oh10 x hx).trans (hfr x hx)
    obtain ⟨s, H, hr, e0, e1, e4, e5, e6, HK, HT, hb⟩ := id HP
    obtain ⟨sk, K, kr, k1, k2, k3, k4, k5⟩ := id HK
    obtain ⟨HT1, HT2, HT3, HT4⟩ := id HT
    refine V.zret .boolean dX6_readLend_17 rfl (rfl) ?_
    have hE : rLend b n S = (false, failP 2 S) := by unfold rLend; rw [if_neg q9]
    exact ⟨by rw [hE]; rfl, by rw [hE]; exact HP, hfr⟩
