/-! TextReading: LIGHT, BLOW -/
theorem stepP_V {d n0 : Nat} {κ : Kd} (hd : 4 ≤ d) {h : Hp} {a t tp n : Nat} {b : Nat → Int32} {S : PS} (HP : isP h a t tp n b S) (hs : sepP a t tp) (hn : n ≤ 700) (hbb : ∀ k, k < n → ¬ b k = -1) (ok : S.1.1 ≤ n) : V MX7_step (d, 0, 0, n0, κ) 0 0 h 0 [some (.ref (a + 1)), none] [] (fun v h' => v = none ∧ isP h' a t tp n b (stepP b n S) ∧ ∀ x : Nat, ((x < a ∨ a + 23 ≤ x) ∧ (x < t ∨ t + 19 ≤ x)) → h' x = h x) := by
  obtain ⟨s, H, hr, e0, e1, e4, e5, e6, HK, HT, hb⟩ := id HP
  obtain ⟨sk, K, kr, k1, k2, k3, k4, k5⟩ := id HK
  obtain ⟨HT1, HT2, HT3, HT4⟩ := id HT
  have sp1 := hs.1
  have sp2 := hs.2.1
  have sp3 := hs.2.2
  refine V.post ?_ (step_V (q := S.1) (b := b) (n := n) hd ⟨_, K, kr, k1, k2, k3, k4, k5⟩ hb hn ok hbb (by omega))
  rintro v h' ⟨rfl, HK, o⟩
  refine ⟨rfl, ⟨_, C6_kept H (o _ (by omega)) (o _ (by omega)), hr, e0, e1, e4, e5, e6, HK, HT.kept (fun x h1 h2 => o x (by omega)), (o _ (by omega)).trans hb⟩, fun x hx => o x (by omega)⟩
/-- what is told is written anew -/
def isTw (h h' : Hp) (t : Nat) (T : Tx) : Prop := isT h' t T ∧ ∀ x : Nat, (x < t ∨ t + 19 ≤ x) → h' x = h x
theorem isT.lights {h h' : Hp} {t : Nat} {T : Tx} {D : St} (HT : isT h t T) (H : isR C2 h' (t + 5) D) (o : ∀ x : Nat, (x < t + 5 ∨ t + 5 + 4 ≤ x) → h' x = h x) : isTw h h' t (T.1, D, T.2.2) := by
  obtain ⟨h1, h2, h3, h4⟩ := HT
  exact ⟨⟨h1.kept C8_ok (fun x a1 a2 => o x (by have a3 : x < t + 5 := a2; omega)), H, h3.kept C2_ok (fun x a1 a2 => o x (by omega)), h4.kept (fun x a1 a2 => o x (by omega))⟩, fun x hx => o x (by omega)⟩
theorem isT.blows {h h' : Hp} {t : Nat} {T : Tx} {D : St} (HT : isT h t T) (H : isR C2 h' (t + 9) D) (o : ∀ x : Nat, (x < t + 9 ∨ t + 9 + 4 ≤ x) → h' x = h x) : isTw h h' t (T.1, T.2.1, D, T.2.2.2) := by
  obtain ⟨h1, h2, h3, h4⟩ := HT
  exact ⟨⟨h1.kept C8_ok (fun x a1 a2 => o x (by have a3 : x < t + 5 := a2; omega)), h2.kept C2_ok (fun x a1 a2 => o x (by have a3 : x < t + 5 + 4 := a2; omega)), H, h4.kept (fun x a1 a2 => o x (by omega))⟩, fun x hx => o x (by omega)⟩
theorem isT.laws {h h' : Hp} {t : Nat} {T : Tx} {L : St} (HT : isT h t T) (H : isL h' (t + 13) L) (o : ∀ x : Nat, (x < t + 13 ∨ t + 13 + 6 ≤ x) → h' x = h x) : isTw h h' t (T.1, T.2.1, T.2.2.1, L) := by
  obtain ⟨h1, h2, h3, h4⟩ := HT
  exact ⟨⟨h1.kept C8_ok (fun x a1 a2 => o x (by have a3 : x < t + 5 := a2; omega)), h2.kept C2_ok (fun x a1 a2 => o x (by have a3 : x < t + 5 + 4 := a2; omega)), h3.kept C2_ok (fun x a1 a2 => o x (by have a3 : x < t + 9 + 4 := a2; omega)), H⟩, fun x hx => o x (by omega)⟩
theorem isP.told {h h' : Hp} {a t tp n : Nat} {b : Nat → Int32} {S : PS} {T : Tx} (HP : isP h a t tp n b S) (hs : sepP a t tp) (w : isTw h h' t T) : isP h' a t tp n b (setT S T) ∧ ∀ x : Nat, ((x < a ∨ a + 23 ≤ x) ∧ (x < t ∨ t + 19 ≤ x)) → h' x = h x := by
  obtain ⟨s, H, hr, e0, e1, e4, e5, e6, HK, HT, hb⟩ := id HP
  obtain ⟨sk, K, kr, k1, k2, k3, k4, k5⟩ := id HK
  obtain ⟨HT1, HT2, HT3, HT4⟩ := id HT
  have sp1 := hs.1
  have sp2 := hs.2.1
  have sp3 := hs.2.2
  have o := w.2
  have HK2 := HK.kept (o _ (by omega))
  have H2 := C6_kept H (o _ (by omega)) (o _ (by omega))
  exact ⟨⟨_, H2, hr, e0, e1, e4, e5, e6, HK2, w.1, (o _ (by omega)).trans hb⟩, fun x hx => o x hx.2⟩
theorem okD_lt {D : St} (ok : okD D) (h : dFull D = false) : nat (D.1 0) < 12 := by
  have h2 := ok.2.2
  have e := ok.2.1
  have hm : ∃ m : Nat, m ≤ 12 ∧ D.1 1 = nI m := by
    rcases ok.1 with q | q
    · exact ⟨12, by decide, q⟩
    · exact ⟨8, by decide, q⟩
  obtain ⟨m, hm1, hm2⟩ := hm
  have h1 : D.1 0 < D.1 1 := by
    unfold dFull at h
    by_cases z : D.1 0 < D.1 1
    · exact z
    · rw [decide_eq_true z] at h; cases h
  rw [e, hm2] at h1
  have h3 := (nI_ltI (by omega) (by omega)).mp h1
  omega
theorem okD_add {D : St} {x y z : Int32} (ok : okD D) (h : nat (D.1 0) < 12) : okD (dAdd D (nat (D.1 0)) x y z) := ⟨ok.1, okN.of (n := nat (D.1 0) + 1) rfl (by omega) (by decide)⟩
def rLight3 (b : Nat → Int32) (n i : Nat) (e : Int32) (S : PS) : Bool × PS := (true, stepP b n (setT S (S.2.1.1, dAdd S.2.1.2.1 (nat (S.2.1.2.1.1 0)) (nI i) e S.1.2.2.2, S.2.1.2.2)))
def rLight2 (b : Nat → Int32) (n i : Nat) (S : PS) : Bool × PS := bindP (numP 0 99 (stepP b n S)) (rLight3 b n i S.1.2.2.2)
def rLight1 (b : Nat → Int32) (n : Nat) (S : PS) : Bool × PS := bindP (numP 0 1 (stepP b n S)) (rLight2 b n (nat (findP S)))
def rLight (b : Nat → Int32) (n : Nat) (S : PS) : Bool × PS := if dFull S.2.1.2.1 = true then (false, failP 2 S) else bindP (persP (stepP b n S)) (rLight1 b n)
set_option maxRecDepth 100000 in
set_option maxHeartbeats 4000000 in
theorem rLight_V {d n0 : Nat} {κ : Kd} (hd : 6 ≤ d) {h : Hp} {a t tp n : Nat} {b : Nat → Int32} {S : PS} (HP : isP h a t tp n b S) (hs : sepP a t tp) (hn : n ≤ 700) (hbb : ∀ k, k < n → ¬ b k = -1) (okQ : okS n S) : V MX6_readDeed (d, 0, 0, n0, κ) 0 0 h 0 [some (.ref a), some (.ref (t + 5)), none, none] [] (fun v h' => v = some (.int (bI (rLight b n S).1)) ∧ isP h' a t tp n b (rLight b n S).2 ∧ ∀ x : Nat, ((x < a ∨ a + 23 ≤ x) ∧ (x < t ∨ t + 19 ≤ x)) → h' x = h x) := by
  obtain ⟨s, H, hr, e0, e1, e4, e5, e6, HK, HT, hb⟩ := id HP
  obtain ⟨sk, K, kr, k1, k2, k3, k4, k5⟩ := id HK
  obtain ⟨HT1, HT2, HT3, HT4⟩ := id HT
  have sp1 := hs.1
  have sp2 := hs.2.1
  have sp3 := hs.2.2
  have hfr : ∀ x : Nat, ((x < a ∨ a + 23 ≤ x) ∧ (x < t ∨ t + 19 ≤ x)) → h x = h x := fun _ _ => rfl
  refine V.aload_n dX6_readDeed_0 rfl ?_
  refine V.cV0 (ci := 2) yoX2_isFull ml_X6_123 im_X2_isFull se_X2_isFull dX6_readDeed_1 rfl HT2.1 (Nat.le_of_ble_eq_true rfl) (by omega) ⟨Nat.le_refl _, Nat.le_refl _⟩ rfl (Nat.le_of_ble_eq_true rfl) (dFull_V (by omega) HT2) (V.rdK ?_)
  refine V.if_eq 13 dX6_readDeed_4 (by decide) (fun c4 => ?_) (fun c4 => ?_)
  · skip
    have q4 := bI_f c4
    refine V.aload_n dX6_readDeed_13 rfl ?_
    refine V.getf okX6 2 fl_X6_18 dX6_readDeed_14 (by decide) H.1 rfl ?_
    refine V.cV0 (ci := 7) yoX7_step ml_X6_54 im_X7_step se_X7_step dX6_readDeed_17 rfl K.1 (Nat.le_of_ble_eq_true rfl) (by omega) ⟨Nat.le_refl _, Nat.le_refl _⟩ rfl (Nat.le_of_ble_eq_true rfl) (stepP_V (S := S) (by omega) HP hs hn hbb okQ.1) ?_
    rintro _ h1 ⟨rfl, HP, oh1⟩
    have hfr : ∀ x : Nat, ((x < a ∨ a + 23 ≤ x) ∧ (x < t ∨ t + 19 ≤ x)) → h1 x = h x := fun x hx => (oh1 x hx).trans (hfr x hx)
    obtain ⟨s, H, hr, e0, e1, e4, e5, e6, HK, HT, hb⟩ := id HP
    obtain ⟨sk, K, kr, k1, k2, k3, k4, k5⟩ := id HK
    obtain ⟨HT1, HT2, HT3, HT4⟩ := id HT
    obtain ⟨S1, hS1⟩ : ∃ x, x = stepP b n S := ⟨_, rfl⟩
    rw [← hS1] at HP
    have okS1 : okS n S1 := by rw [hS1]; exact okS_step okQ
    obtain ⟨s, H, hr, e0, e1, e4, e5, e6, HK, HT, hb⟩ := id HP
    obtain ⟨sk, K, kr, k1, k2, k3, k4, k5⟩ := id HK
    obtain ⟨HT1, HT2, HT3, HT4⟩ := id HT
    refine V.aload_n dX6_readDeed_20 rfl ?_
    refine V.cV0 (ci := 6) yoX6_isPersonTold ml_X6_113 im_X6_isPersonTold se_X6_isPersonTold dX6_readDeed_21 rfl H.1 (Nat.le_of_ble_eq_true rfl) (by omega) ⟨Nat.le_refl _, Nat.le_refl _⟩ rfl (Nat.le_of_ble_eq_true rfl) (isPerson_V (S := S1) (by omega) HP hs okS1.2.1) ?_
    rintro _ h2 ⟨rfl, HP, oh2⟩
    have hfr : ∀ x : Nat, ((x < a ∨ a + 23 ≤ x) ∧ (x < t ∨ t + 19 ≤ x)) → h2 x = h x := fun x hx => (oh2 x hx).trans (hfr x hx)
    obtain ⟨s, H, hr, e0, e1, e4, e5, e6, HK, HT, hb⟩ := id HP
    obtain ⟨sk, K, kr, k1, k2, k3, k4, k5⟩ := id HK
    obtain ⟨HT1, HT2, HT3, HT4⟩ := id HT
    refine V.if_ne 29 dX6_readDeed_24 (by decide) (fun c24 => ?_) (fun c24 => ?_)
    · skip
      have q24 := persP_t (bI_t c24)
      rw [q24.1] at HP
      obtain ⟨s, H, hr, e0, e1, e4, e5, e6, HK, HT, hb⟩ := id HP
      obtain ⟨sk, K, kr, k1, k2, k3, k4, k5⟩ := id HK
      obtain ⟨HT1, HT2, HT3, HT4⟩ := id HT
      refine V.aload_n dX6_readDeed_29 rfl ?_
      refine V.getf (v := .ref (t)) okX6 3 fl_X6_25 dX6_readDeed_30 (by decide) H.1 (congrArg (fun z => some (Value.ref z)) (hr)) ?_
      refine V.aload_n dX6_readDeed_33 rfl ?_
      refine V.getf okX6 2 fl_X6_18 dX6_readDeed_34 (by decide) H.1 rfl ?_
      refine V.getf okX7 5 fl_X6_63 dX6_readDeed_37 (by decide) K.1 rfl ?_
      rw [k5]
      refine V.cV1 (ci := 8) yoX8_find ml_X6_66 im_X8_find se_X8_find dX6_readDeed_40 rfl HT1.1 (Nat.le_of_ble_eq_true rfl) (by omega) ⟨Nat.le_refl _, Nat.le_refl _⟩ rfl (Nat.le_of_ble_eq_true rfl) (tFind_V (by omega) HT1 okS1.2.1.1 (by have := okS1.2.1.2; omega)) (V.rdK ?_)
      have hi6 : nat (findP S1) < 6 := by have h1 := (findP_ok okS1 q24.2.2).2; have h2 := okS1.2.1.2; omega
      refine V.eqi (y := nI (nat (findP S1))) (findP_ok okS1 q24.2.2).1 ?_
      refine V.istore_n dX6_readDeed_43 (by decide) rfl ?_
      refine V.aload_n dX6_readDeed_44 rfl ?_
      refine V.getf okX6 2 fl_X6_18 dX6_readDeed_45 (by decide) H.1 rfl ?_
      refine V.cV0 (ci := 7) yoX7_step ml_X6_54 im_X7_step se_X7_step dX6_readDeed_48 rfl K.1 (Nat.le_of_ble_eq_true rfl) (by omega) ⟨Nat.le_refl _, Nat.le_refl _⟩ rfl (Nat.le_of_ble_eq_true rfl) (stepP_V (S := S1) (by omega) HP hs hn hbb okS1.1) ?_
      rintro _ h3 ⟨rfl, HP, oh3⟩
      have hfr : ∀ x : Nat, ((x < a ∨ a + 23 ≤ x) ∧ (x < t ∨ t + 19 ≤ x)) → h3 x = h x := fun x hx => (oh3 x hx).trans (hfr x hx)
      obtain ⟨s, H, hr, e0, e1, e4, e5, e6, HK, HT, hb⟩ := id HP
      obtain ⟨sk, K, kr, k1, k2, k3, k4, k5⟩ := id HK
      obtain ⟨HT1, HT2, HT3, HT4⟩ := id HT
      obtain ⟨S2, hS2⟩ : ∃ x, x = stepP b n S1 := ⟨_, rfl⟩
      rw [← hS2] at HP
      have okS2 : okS n S2 := by rw [hS2]; exact okS_step okS1
      obtain ⟨s, H, hr, e0, e1, e4, e5, e6, HK, HT, hb⟩ := id HP
      obtain ⟨sk, K, kr, k1, k2, k3, k4, k5⟩ := id HK
      obtain ⟨HT1, HT2, HT3, HT4⟩ := id HT
      refine V.aload_n dX6_readDeed_51 rfl ?_
      refine V.iconst (v := 0) dX6_readDeed_52 (by decide) ?_
      refine V.iconst (v := 1) dX6_readDeed_53 (by decide) ?_
      refine V.cV2 (ci := 6) yoX6_isNumber ml_X6_102 im_X6_isNumber se_X6_isNumber dX6_readDeed_54 rfl H.1 (Nat.le_of_ble_eq_true rfl) (by omega) ⟨Nat.le_refl _, Nat.le_refl _⟩ rfl (Nat.le_of_ble_eq_true rfl) (isNumber_V (S := S2) (lo := 0) (hi := 1) (by omega) HP hs) ?_
      rintro _ h4 ⟨rfl, HP, oh4⟩
      have hfr : ∀ x : Nat, ((x < a ∨ a + 23 ≤ x) ∧ (x < t ∨ t + 19 ≤ x)) → h4 x = h x := fun x hx => (oh4 x hx).trans (hfr x hx)
      obtain ⟨s, H, hr, e0, e1, e4, e5, e6, HK, HT, hb⟩ := id HP
      obtain ⟨sk, K, kr, k1, k2, k3, k4, k5⟩ := id HK
      obtain ⟨HT1, HT2, HT3, HT4⟩ := id HT
      refine V.if_ne 62 dX6_readDeed_57 (by decide) (fun c57 => ?_) (fun c57 => ?_)
      · skip
        have q57 := numP_t (bI_t c57)
        rw [q57.1] at HP
        obtain ⟨s, H, hr, e0, e1, e4, e5, e6, HK, HT, hb⟩ := id HP
        obtain ⟨sk, K, kr, k1, k2, k3, k4, k5⟩ := id HK
        obtain ⟨HT1, HT2, HT3, HT4⟩ := id HT
        refine V.aload_n dX6_readDeed_62 rfl ?_
        refine V.getf okX6 2 fl_X6_18 dX6_readDeed_63 (by decide) H.1 rfl ?_
        refine V.getf okX7 5 fl_X6_63 dX6_readDeed_66 (by decide) K.1 rfl ?_
        rw [k5]
        refine V.istore_n dX6_readDeed_69 (by decide) rfl ?_
        refine V.aload_n dX6_readDeed_70 rfl ?_
        refine V.getf okX6 2 fl_X6_18 dX6_readDeed_71 (by decide) H.1 rfl ?_
        refine V.cV0 (ci := 7) yoX7_step ml_X6_54 im_X7_step se_X7_step dX6_readDeed_74 rfl K.1 (Nat.le_of_ble_eq_true rfl) (by omega) ⟨Nat.le_refl _, Nat.le_refl _⟩ rfl (Nat.le_of_ble_eq_true rfl) (stepP_V (S := S2) (by omega) HP hs hn hbb okS2.1) ?_
        rintro _ h5 ⟨rfl, HP, oh5⟩
        have hfr : ∀ x : Nat, ((x < a ∨ a + 23 ≤ x) ∧ (x < t ∨ t + 19 ≤ x)) → h5 x = h x := fun x hx => (oh5 x hx).trans (hfr x hx)
        obtain ⟨s, H, hr, e0, e1, e4, e5, e6, HK, HT, hb⟩ := id HP
        obtain ⟨sk, K, kr, k1, k2, k3, k4, k5⟩ := id HK
        obtain ⟨HT1, HT2, HT3, HT4⟩ := id HT
        obtain ⟨S3, hS3⟩ : ∃ x, x = stepP b n S2 := ⟨_, rfl⟩
        rw [← hS3] at HP
        have okS3 : okS n S3 := by rw [hS3]; exact okS_step okS2
        obtain ⟨s, H, hr, e0, e1, e4, e5, e6, HK, HT, hb⟩ := id HP
        obtain ⟨sk, K, kr, k1, k2, k3, k4, k5⟩ := id HK
        obtain ⟨HT1, HT2, HT3, HT4⟩ := id HT
        refine V.aload_n dX6_readDeed_77 rfl ?_
        refine V.iconst (v := 0) dX6_readDeed_78 (by decide) ?_
        refine V.bipush (v := 99) dX6_readDeed_79 (by decide) ?_
        refine V.cV2 (ci := 6) yoX6_isNumber ml_X6_102 im_X6_isNumber se_X6_isNumber dX6_readDeed_81 rfl H.1 (Nat.le_of_ble_eq_true rfl) (by omega) ⟨Nat.le_refl _, Nat.le_refl _⟩ rfl (Nat.le_of_ble_eq_true rfl) (isNumber_V (S := S3) (lo := 0) (hi := 99) (by omega) HP hs) ?_
        rintro _ h6 ⟨rfl, HP, oh6⟩
        have hfr : ∀ x : Nat, ((x < a ∨ a + 23 ≤ x) ∧ (x < t ∨ t + 19 ≤ x)) → h6 x = h x := fun x hx => (oh6 x hx).trans (hfr x hx)
        obtain ⟨s, H, hr, e0, e1, e4, e5, e6, HK, HT, hb⟩ := id HP
        obtain ⟨sk, K, kr, k1, k2, k3, k4, k5⟩ := id HK
        obtain ⟨HT1, HT2, HT3, HT4⟩ := id HT
        refine V.if_ne 89 dX6_readDeed_84 (by decide) (fun c84 => ?_) (fun c84 => ?_)
        · skip
          have q84 := numP_t (bI_t c84)
          rw [q84.1] at HP
          obtain ⟨s, H, hr, e0, e1, e4, e5, e6, HK, HT, hb⟩ := id HP
          obtain ⟨sk, K, kr, k1, k2, k3, k4, k5⟩ := id HK
          obtain ⟨HT1, HT2, HT3, HT4⟩ := id HT
          have hfu : dFull S3.2.1.2.1 = false := by rw [hS3, hS2, hS1]; exact q4
          have hlt := okD_lt okS3.2.2.1 hfu
          refine V.aload_n dX6_readDeed_89 rfl ?_
          refine V.iload_n dX6_readDeed_90 rfl ?_
          refine V.iload_n dX6_readDeed_91 rfl ?_
          refine V.aload_n dX6_readDeed_92 rfl ?_
          refine V.getf okX6 2 fl_X6_18 dX6_readDeed_93 (by decide) H.1 rfl ?_
          refine V.getf okX7 5 fl_X6_63 dX6_readDeed_96 (by decide) K.1 rfl ?_
          rw [k5]
          refine V.cV3 (ci := 2) yoX2_add ml_X6_128 im_X2_add se_X2_add dX6_readDeed_99 rfl HT2.1 (Nat.le_of_ble_eq_true rfl) (by omega) ⟨Nat.le_refl _, Nat.le_refl _⟩ rfl (Nat.le_of_ble_eq_true rfl) (dAdd_V (by omega) HT2 okS3.2.2.1.2.1 hlt hfu) ?_
          rintro _ h7 ⟨rfl, HT2, ooh7⟩
          obtain ⟨HP, oh7⟩ := isP.told HP hs (isT.lights HT HT2 ooh7)
          have hfr : ∀ x : Nat, ((x < a ∨ a + 23 ≤ x) ∧ (x < t ∨ t + 19 ≤ x)) → h7 x = h x := fun x hx => (oh7 x hx).trans (hfr x hx)
          obtain ⟨s, H, hr, e0, e1, e4, e5, e6, HK, HT, hb⟩ := id HP
          obtain ⟨sk, K, kr, k1, k2, k3, k4, k5⟩ := id HK
          obtain ⟨HT1, HT2, HT3, HT4⟩ := id HT
          obtain ⟨S4, hS4⟩ : ∃ x, x = setT S3 (S3.2.1.1, dAdd S3.2.1.2.1 (nat (S3.2.1.2.1.1 0)) (nI (nat (findP S1))) S2.1.2.2.2 S3.1.2.2.2, S3.2.1.2.2) := ⟨_, rfl⟩
          rw [← hS4] at HP
          have okS4 : okS n S4 := by rw [hS4]; exact ⟨okS3.1, okS3.2.1, okD_add okS3.2.2.1 hlt, okS3.2.2.2⟩
          obtain ⟨s, H, hr, e0, e1, e4, e5, e6, HK, HT, hb⟩ := id HP
          obtain ⟨sk, K, kr, k1, k2, k3, k4, k5⟩ := id HK
          obtain ⟨HT1, HT2, HT3, HT4⟩ := id HT
          refine V.aload_n dX6_readDeed_102 rfl ?_
          refine V.getf okX6 2 fl_X6_18 dX6_readDeed_103 (by decide) H.1 rfl ?_
          refine V.cV0 (ci := 7) yoX7_step ml_X6_54 im_X7_step se_X7_step dX6_readDeed_106 rfl K.1 (Nat.le_of_ble_eq_true rfl) (by omega) ⟨Nat.le_refl _, Nat.le_refl _⟩ rfl (Nat.le_of_ble_eq_true rfl) (stepP_V (S := S4) (by omega) HP hs hn hbb okS4.1) ?_
          rintro _ h8 ⟨rfl, HP, oh8⟩
          have hfr : ∀ x : Nat, ((x < a ∨ a + 23 ≤ x) ∧ (x < t ∨ t + 19 ≤ x)) → h8 x = h x := fun x hx => (oh8 x hx).trans (hfr x hx)
          obtain ⟨s, H, hr, e0, e1, e4, e5, e6, HK, HT, hb⟩ := id HP
          obtain ⟨sk, K, kr, k1, k2, k3, k4, k5⟩ := id HK
          obtain ⟨HT1, HT2, HT3, HT4⟩ := id HT
          skip
          refine V.iconst (v := 1) dX6_readDeed_109 (by decide) ?_
          refine V.zret .boolean dX6_readDeed_110 rfl (rfl) ?_
          have hE : rLight b n S = (true, stepP b n S4) := by unfold rLight; rw [if_neg (by rw [q4]; decide), ← hS1, bindP_k q24.1, rLight1, ← hS2, bindP_k q57.1, rLight2, ← hS3, bindP_k q84.1, rLight3, ← hS4]
          exact ⟨by rw [hE]; rfl, by rw [hE]; exact HP, hfr⟩
        · skip
          have q84 := bI_f c84
          refine V.iconst (v := 0) dX6_readDeed_87 (by decide) ?_
          refine V.zret .boolean dX6_readDeed_88 rfl (rfl) ?_
          have hE : rLight b n S = numP 0 99 S3 := by unfold rLight; rw [if_neg (by rw [q4]; decide), ← hS1, bindP_k q24.1, rLight1, ← hS2, bindP_k q57.1, rLight2, ← hS3, bindP_f q84]
          exact ⟨by rw [hE, q84]; rfl, by rw [hE]; exact HP, hfr⟩
      · skip
        have q57 := bI_f c57
        refine V.iconst (v := 0) dX6_readDeed_60 (by decide) ?_
        refine V.zret .boolean dX6_readDeed_61 rfl (rfl) ?_
        have hE : rLight b n S = numP 0 1 S2 := by unfold rLight; rw [if_neg (by rw [q4]; decide), ← hS1, bindP_k q24.1, rLight1, ← hS2, bindP_f q57]
        exact ⟨by rw [hE, q57]; rfl, by rw [hE]; exact HP, hfr⟩
    · skip
      have q24 := bI_f c24
      refine V.iconst (v := 0) dX6_readDeed_27 (by decide) ?_
      refine V.zret .boolean dX6_readDeed_28 rfl (rfl) ?_
      have hE : rLight b n S = persP S1 := by unfold rLight; rw [if_neg (by rw [q4]; decide), ← hS1, bindP_f q24]
      exact ⟨by rw [hE, q24]; rfl, by rw [hE]; exact HP, hfr⟩
  · skip
    have q4 := bI_t c4
    refine V.aload_n dX6_readDeed_7 rfl ?_
    refine V.iconst (v := 2) dX6_readDeed_8 (by decide) ?_
    refine V.cV1 (ci := 6) yoX6_fails ml_X6_60 im_X6_fails se_X6_fails dX6_readDeed_9 rfl H.1 (Nat.le_of_ble_eq_true rfl) (by omega) ⟨Nat.le_refl _, Nat.le_refl _⟩ rfl (Nat.le_of_ble_eq_true rfl) (fails_V (S := S) (k := 2) (by omega) HP hs) ?_
    rintro _ h9 ⟨rfl, HP, oh9⟩
    have hfr : ∀ x : Nat, ((x < a ∨ a + 23 ≤ x) ∧ (x < t ∨ t + 19 ≤ x)) → h9 x = h x := fun x hx => (oh9 x hx).trans (hfr x hx)
    obtain ⟨s, H, hr, e0, e1, e4, e5, e6, HK, HT, hb⟩ := id HP
    obtain ⟨sk, K, kr, k1, k2, k3, k4, k5⟩ := id HK
    obtain ⟨HT1, HT2, HT3, HT4⟩ := id HT
    refine V.zret .boolean dX6_readDeed_12 rfl (rfl) ?_
    have hE : rLight b n S = (false, failP 2 S) := by unfold rLight; rw [if_pos q4]
    exact ⟨by rw [hE]; rfl, by rw [hE]; exact HP, hfr⟩
def rBlow3 (b : Nat → Int32) (n i : Nat) (e : Int32) (S : PS) : Bool × PS := (true, stepP b n (setT S (S.2.1.1, S.2.1.2.1, dAdd S.2.1.2.2.1 (nat (S.2.1.2.2.1.1 0)) (nI i) e S.1.2.2.2, S.2.1.2.2.2)))
def rBlow2 (b : Nat → Int32) (n i : Nat) (S : PS) : Bool × PS := bindP (numP 0 99 (stepP b n S)) (rBlow3 b n i S.1.2.2.2)
def rBlow1 (b : Nat → Int32) (n : Nat) (S : PS) : Bool × PS := bindP (numP 0 1 (stepP b n S)) (rBlow2 b n (nat (findP S)))
def rBlow (b : Nat → Int32) (n : Nat) (S : PS) : Bool × PS := if dFull S.2.1.2.2.1 = true then (false, failP 2 S) else bindP (persP (stepP b n S)) (rBlow1 b n)
set_option maxRecDepth 100000 in
set_option maxHeartbeats 4000000 in
theorem rBlow_V {d n0 : Nat} {κ : Kd} (hd : 6 ≤ d) {h : Hp} {a t tp n : Nat} {b : Nat → Int32} {S : PS} (HP : isP h a t tp n b S) (hs : sepP a t tp) (hn : n ≤ 700) (hbb : ∀ k, k < n → ¬ b k = -1) (okQ : okS n S) : V MX6_readDeed (d, 0, 0, n0, κ) 0 0 h 0 [some (.ref a), some (.ref (t + 9)), none, none] [] (fun v h' => v = some (.int (bI (rBlow b n S).1)) ∧ isP h' a t tp n b (rBlow b n S).2 ∧ ∀ x : Nat, ((x < a ∨ a + 23 ≤ x) ∧ (x < t ∨ t + 19 ≤ x)) → h' x = h x) := by
  obtain ⟨s, H, hr, e0, e1, e4, e5, e6, HK, HT, hb⟩ := id HP
  obtain ⟨sk, K, kr, k1, k2, k3, k4, k5⟩ := id HK
  obtain ⟨HT1, HT2, HT3, HT4⟩ := id HT
  have sp1 := hs.1
  have sp2 := hs.2.1
  have sp3 := hs.2.2
  have hfr : ∀ x : Nat, ((x < a ∨ a + 23 ≤ x) ∧ (x < t ∨ t + 19 ≤ x)) → h x = h x := fun _ _ => rfl
  refine V.aload_n dX6_readDeed_0 rfl ?_
  refine V.cV0 (ci := 2) yoX2_isFull ml_X6_123 im_X2_isFull se_X2_isFull dX6_readDeed_1 rfl HT3.1 (Nat.le_of_ble_eq_true rfl) (by omega) ⟨Nat.le_refl _, Nat.le_refl _⟩ rfl (Nat.le_of_ble_eq_true rfl) (dFull_V (by omega) HT3) (V.rdK ?_)
  refine V.if_eq 13 dX6_readDeed_4 (by decide) (fun c4 => ?_) (fun c4 => ?_)
  · skip
    have q4 := bI_f c4
    refine V.aload_n dX6_readDeed_13 rfl ?_
    refine V.getf okX6 2 fl_X6_18 dX6_readDeed_14 (by decide) H.1 rfl ?_
    refine V.cV0 (ci := 7) yoX7_step ml_X6_54 im_X7_step se_X7_step dX6_readDeed_17 rfl K.1 (Nat.le_of_ble_eq_true rfl) (by omega) ⟨Nat.le_refl _, Nat.le_refl _⟩ rfl (Nat.le_of_ble_eq_true rfl) (stepP_V (S := S) (by omega) HP hs hn hbb okQ.1) ?_
    rintro _ h1 ⟨rfl, HP, oh1⟩
    have hfr : ∀ x : Nat, ((x < a ∨ a + 23 ≤ x) ∧ (x < t ∨ t + 19 ≤ x)) → h1 x = h x := fun x hx => (oh1 x hx).trans (hfr x hx)
    obtain ⟨s, H, hr, e0, e1, e4, e5, e6, HK, HT, hb⟩ := id HP
    obtain ⟨sk, K, kr, k1, k2, k3, k4, k5⟩ := id HK
    obtain ⟨HT1, HT2, HT3, HT4⟩ := id HT
    obtain ⟨S1, hS1⟩ : ∃ x, x = stepP b n S := ⟨_, rfl⟩
    rw [← hS1] at HP
    have okS1 : okS n S1 := by rw [hS1]; exact okS_step okQ
    obtain ⟨s, H, hr, e0, e1, e4, e5, e6, HK, HT, hb⟩ := id HP
    obtain ⟨sk, K, kr, k1, k2, k3, k4, k5⟩ := id HK
    obtain ⟨HT1, HT2, HT3, HT4⟩ := id HT
    refine V.aload_n dX6_readDeed_20 rfl ?_
    refine V.cV0 (ci := 6) yoX6_isPersonTold ml_X6_113 im_X6_isPersonTold se_X6_isPersonTold dX6_readDeed_21 rfl H.1 (Nat.le_of_ble_eq_true rfl) (by omega) ⟨Nat.le_refl _, Nat.le_refl _⟩ rfl (Nat.le_of_ble_eq_true rfl) (isPerson_V (S := S1) (by omega) HP hs okS1.2.1) ?_
    rintro _ h2 ⟨rfl, HP, oh2⟩
    have hfr : ∀ x : Nat, ((x < a ∨ a + 23 ≤ x) ∧ (x < t ∨ t + 19 ≤ x)) → h2 x = h x := fun x hx => (oh2 x hx).trans (hfr x hx)
    obtain ⟨s, H, hr, e0, e1, e4, e5, e6, HK, HT, hb⟩ := id HP
    obtain ⟨sk, K, kr, k1, k2, k3, k4, k5⟩ := id HK
    obtain ⟨HT1, HT2, HT3, HT4⟩ := id HT
    refine V.if_ne 29 dX6_readDeed_24 (by decide) (fun c24 => ?_) (fun c24 => ?_)
    · skip
      have q24 := persP_t (bI_t c24)
      rw [q24.1] at HP
      obtain ⟨s, H, hr, e0, e1, e4, e5, e6, HK, HT, hb⟩ := id HP
      obtain ⟨sk, K, kr, k1, k2, k3, k4, k5⟩ := id HK
      obtain ⟨HT1, HT2, HT3, HT4⟩ := id HT
      refine V.aload_n dX6_readDeed_29 rfl ?_
      refine V.getf (v := .ref (t)) okX6 3 fl_X6_25 dX6_readDeed_30 (by decide) H.1 (congrArg (fun z => some (Value.ref z)) (hr)) ?_
      refine V.aload_n dX6_readDeed_33 rfl ?_
      refine V.getf okX6 2 fl_X6_18 dX6_readDeed_34 (by decide) H.1 rfl ?_
      refine V.getf okX7 5 fl_X6_63 dX6_readDeed_37 (by decide) K.1 rfl ?_
      rw [k5]
      refine V.cV1 (ci := 8) yoX8_find ml_X6_66 im_X8_find se_X8_find dX6_readDeed_40 rfl HT1.1 (Nat.le_of_ble_eq_true rfl) (by omega) ⟨Nat.le_refl _, Nat.le_refl _⟩ rfl (Nat.le_of_ble_eq_true rfl) (tFind_V (by omega) HT1 okS1.2.1.1 (by have := okS1.2.1.2; omega)) (V.rdK ?_)
      have hi6 : nat (findP S1) < 6 := by have h1 := (findP_ok okS1 q24.2.2).2; have h2 := okS1.2.1.2; omega
      refine V.eqi (y := nI (nat (findP S1))) (findP_ok okS1 q24.2.2).1 ?_
      refine V.istore_n dX6_readDeed_43 (by decide) rfl ?_
      refine V.aload_n dX6_readDeed_44 rfl ?_
      refine V.getf okX6 2 fl_X6_18 dX6_readDeed_45 (by decide) H.1 rfl ?_
      refine V.cV0 (ci := 7) yoX7_step ml_X6_54 im_X7_step se_X7_step dX6_readDeed_48 rfl K.1 (Nat.le_of_ble_eq_true rfl) (by omega) ⟨Nat.le_refl _, Nat.le_refl _⟩ rfl (Nat.le_of_ble_eq_true rfl) (stepP_V (S := S1) (by omega) HP hs hn hbb okS1.1) ?_
      rintro _ h3 ⟨rfl, HP, oh3⟩
      have hfr : ∀ x : Nat, ((x < a ∨ a + 23 ≤ x) ∧ (x < t ∨ t + 19 ≤ x)) → h3 x = h x := fun x hx => (oh3 x hx).trans (hfr x hx)
      obtain ⟨s, H, hr, e0, e1, e4, e5, e6, HK, HT, hb⟩ := id HP
      obtain ⟨sk, K, kr, k1, k2, k3, k4, k5⟩ := id HK
      obtain ⟨HT1, HT2, HT3, HT4⟩ := id HT
      obtain ⟨S2, hS2⟩ : ∃ x, x = stepP b n S1 := ⟨_, rfl⟩
      rw [← hS2] at HP
      have okS2 : okS n S2 := by rw [hS2]; exact okS_step okS1
      obtain ⟨s, H, hr, e0, e1, e4, e5, e6, HK, HT, hb⟩ := id HP
      obtain ⟨sk, K, kr, k1, k2, k3, k4, k5⟩ := id HK
      obtain ⟨HT1, HT2, HT3, HT4⟩ := id HT
      refine V.aload_n dX6_readDeed_51 rfl ?_
      refine V.iconst (v := 0) dX6_readDeed_52 (by decide) ?_
      refine V.iconst (v := 1) dX6_readDeed_53 (by decide) ?_
      refine V.cV2 (ci := 6) yoX6_isNumber ml_X6_102 im_X6_isNumber se_X6_isNumber dX6_readDeed_54 rfl H.1 (Nat.le_of_ble_eq_true rfl) (by omega) ⟨Nat.le_refl _, Nat.le_refl _⟩ rfl (Nat.le_of_ble_eq_true rfl) (isNumber_V (S := S2) (lo := 0) (hi := 1) (by omega) HP hs) ?_
      rintro _ h4 ⟨rfl, HP, oh4⟩
      have hfr : ∀ x : Nat, ((x < a ∨ a + 23 ≤ x) ∧ (x < t ∨ t + 19 ≤ x)) → h4 x = h x := fun x hx => (oh4 x hx).trans (hfr x hx)
      obtain ⟨s, H, hr, e0, e1, e4, e5, e6, HK, HT, hb⟩ := id HP
      obtain ⟨sk, K, kr, k1, k2, k3, k4, k5⟩ := id HK
      obtain ⟨HT1, HT2, HT3, HT4⟩ := id HT
      refine V.if_ne 62 dX6_readDeed_57 (by decide) (fun c57 => ?_) (fun c57 => ?_)
      · skip
        have q57 := numP_t (bI_t c57)
        rw [q57.1] at HP
        obtain ⟨s, H, hr, e0, e1, e4, e5, e6, HK, HT, hb⟩ := id HP
        obtain ⟨sk, K, kr, k1, k2, k3, k4, k5⟩ := id HK
        obtain ⟨HT1, HT2, HT3, HT4⟩ := id HT
        refine V.aload_n dX6_readDeed_62 rfl ?_
        refine V.getf okX6 2 fl_X6_18 dX6_readDeed_63 (by decide) H.1 rfl ?_
        refine V.getf okX7 5 fl_X6_63 dX6_readDeed_66 (by decide) K.1 rfl ?_
        rw [k5]
        refine V.istore_n dX6_readDeed_69 (by decide) rfl ?_
        refine V.aload_n dX6_readDeed_70 rfl ?_
        refine V.getf okX6 2 fl_X6_18 dX6_readDeed_71 (by decide) H.1 rfl ?_
        refine V.cV0 (ci := 7) yoX7_step ml_X6_54 im_X7_step se_X7_step dX6_readDeed_74 rfl K.1 (Nat.le_of_ble_eq_true rfl) (by omega) ⟨Nat.le_refl _, Nat.le_refl _⟩ rfl (Nat.le_of_ble_eq_true rfl) (stepP_V (S := S2) (by omega) HP hs hn hbb okS2.1) ?_
        rintro _ h5 ⟨rfl, HP, oh5⟩
        have hfr : ∀ x : Nat, ((x < a ∨ a + 23 ≤ x) ∧ (x < t ∨ t + 19 ≤ x)) → h5 x = h x := fun x hx => (oh5 x hx).trans (hfr x hx)
        obtain ⟨s, H, hr, e0, e1, e4, e5, e6, HK, HT, hb⟩ := id HP
        obtain ⟨sk, K, kr, k1, k2, k3, k4, k5⟩ := id HK
        obtain ⟨HT1, HT2, HT3, HT4⟩ := id HT
        obtain ⟨S3, hS3⟩ : ∃ x, x = stepP b n S2 := ⟨_, rfl⟩
        rw [← hS3] at HP
        have okS3 : okS n S3 := by rw [hS3]; exact okS_step okS2
        obtain ⟨s, H, hr, e0, e1, e4, e5, e6, HK, HT, hb⟩ := id HP
        obtain ⟨sk, K, kr, k1, k2, k3, k4, k5⟩ := id HK
        obtain ⟨HT1, HT2, HT3, HT4⟩ := id HT
        refine V.aload_n dX6_readDeed_77 rfl ?_
        refine V.iconst (v := 0) dX6_readDeed_78 (by decide) ?_
        refine V.bipush (v := 99) dX6_readDeed_79 (by decide) ?_
        refine V.cV2 (ci := 6) yoX6_isNumber ml_X6_102 im_X6_isNumber se_X6_isNumber dX6_readDeed_81 rfl H.1 (Nat.le_of_ble_eq_true rfl) (by omega) ⟨Nat.le_refl _, Nat.le_refl _⟩ rfl (Nat.le_of_ble_eq_true rfl) (isNumber_V (S := S3) (lo := 0) (hi := 99) (by omega) HP hs) ?_
        rintro _ h6 ⟨rfl, HP, oh6⟩
        have hfr : ∀ x : Nat, ((x < a ∨ a + 23 ≤ x) ∧ (x < t ∨ t + 19 ≤ x)) → h6 x = h x := fun x hx => (oh6 x hx).trans (hfr x hx)
        obtain ⟨s, H, hr, e0, e1, e4, e5, e6, HK, HT, hb⟩ := id HP
        obtain ⟨sk, K, kr, k1, k2, k3, k4, k5⟩ := id HK
        obtain ⟨HT1, HT2, HT3, HT4⟩ := id HT
        refine V.if_ne 89 dX6_readDeed_84 (by decide) (fun c84 => ?_) (fun c84 => ?_)
        · skip
          have q84 := numP_t (bI_t c84)
          rw [q84.1] at HP
          obtain ⟨s, H, hr, e0, e1, e4, e5, e6, HK, HT, hb⟩ := id HP
          obtain ⟨sk, K, kr, k1, k2, k3, k4, k5⟩ := id HK
          obtain ⟨HT1, HT2, HT3, HT4⟩ := id HT
          have hfu : dFull S3.2.1.2.2.1 = false := by rw [hS3, hS2, hS1]; exact q4
          have hlt := okD_lt okS3.2.2.2.1 hfu
          refine V.aload_n dX6_readDeed_89 rfl ?_
          refine V.iload_n dX6_readDeed_90 rfl ?_
          refine V.iload_n dX6_readDeed_91 rfl ?_
          refine V.aload_n dX6_readDeed_92 rfl ?_
          refine V.getf okX6 2 fl_X6_18 dX6_readDeed_93 (by decide) H.1 rfl ?_
          refine V.getf okX7 5 fl_X6_63 dX6_readDeed_96 (by decide) K.1 rfl ?_
          rw [k5]
          refine V.cV3 (ci := 2) yoX2_add ml_X6_128 im_X2_add se_X2_add dX6_readDeed_99 rfl HT3.1 (Nat.le_of_ble_eq_true rfl) (by omega) ⟨Nat.le_refl _, Nat.le_refl _⟩ rfl (Nat.le_of_ble_eq_true rfl) (dAdd_V (by omega) HT3 okS3.2.2.2.1.2.1 hlt hfu) ?_
          rintro _ h7 ⟨rfl, HT3, ooh7⟩
          obtain ⟨HP, oh7⟩ := isP.told HP hs (isT.blows HT HT3 ooh7)
          have hfr : ∀ x : Nat, ((x < a ∨ a + 23 ≤ x) ∧ (x < t ∨ t + 19 ≤ x)) → h7 x = h x := fun x hx => (oh7 x hx).trans (hfr x hx)
          obtain ⟨s, H, hr, e0, e1, e4, e5, e6, HK, HT, hb⟩ := id HP
          obtain ⟨sk, K, kr, k1, k2, k3, k4, k5⟩ := id HK
          obtain ⟨HT1, HT2, HT3, HT4⟩ := id HT
          obtain ⟨S4, hS4⟩ : ∃ x, x = setT S3 (S3.2.1.1, S3.2.1.2.1, dAdd S3.2.1.2.2.1 (nat (S3.2.1.2.2.1.1 0)) (nI (nat (findP S1))) S2.1.2.2.2 S3.1.2.2.2, S3.2.1.2.2.2) := ⟨_, rfl⟩
          rw [← hS4] at HP
          have okS4 : okS n S4 := by rw [hS4]; exact ⟨okS3.1, okS3.2.1, okS3.2.2.1, okD_add okS3.2.2.2.1 hlt, okS3.2.2.2.2⟩
          obtain ⟨s, H, hr, e0, e1, e4, e5, e6, HK, HT, hb⟩ := id HP
          obtain ⟨sk, K, kr, k1, k2, k3, k4, k5⟩ := id HK
          obtain ⟨HT1, HT2, HT3, HT4⟩ := id HT
          refine V.aload_n dX6_readDeed_102 rfl ?_
          refine V.getf okX6 2 fl_X6_18 dX6_readDeed_103 (by decide) H.1 rfl ?_
          refine V.cV0 (ci := 7) yoX7_step ml_X6_54 im_X7_step se_X7_step dX6_readDeed_106 rfl K.1 (Nat.le_of_ble_eq_true rfl) (by omega) ⟨Nat.le_refl _, Nat.le_refl _⟩ rfl (Nat.le_of_ble_eq_true rfl) (stepP_V (S := S4) (by omega) HP hs hn hbb okS4.1) ?_
          rintro _ h8 ⟨rfl, HP, oh8⟩
          have hfr : ∀ x : Nat, ((x < a ∨ a + 23 ≤ x) ∧ (x < t ∨ t + 19 ≤ x)) → h8 x = h x := fun x hx => (oh8 x hx).trans (hfr x hx)
          obtain ⟨s, H, hr, e0, e1, e4, e5, e6, HK, HT, hb⟩ := id HP
          obtain ⟨sk, K, kr, k1, k2, k3, k4, k5⟩ := id HK
          obtain ⟨HT1, HT2, HT3, HT4⟩ := id HT
          skip
          refine V.iconst (v := 1) dX6_readDeed_109 (by decide) ?_
          refine V.zret .boolean dX6_readDeed_110 rfl (rfl) ?_
          have hE : rBlow b n S = (true, stepP b n S4) := by unfold rBlow; rw [if_neg (by rw [q4]; decide), ← hS1, bindP_k q24.1, rBlow1, ← hS2, bindP_k q57.1, rBlow2, ← hS3, bindP_k q84.1, rBlow3, ← hS4]
          exact ⟨by rw [hE]; rfl, by rw [hE]; exact HP, hfr⟩
        · skip
          have q84 := bI_f c84
          refine V.iconst (v := 0) dX6_readDeed_87 (by decide) ?_
          refine V.zret .boolean dX6_readDeed_88 rfl (rfl) ?_
          have hE : rBlow b n S = numP 0 99 S3 := by unfold rBlow; rw [if_neg (by rw [q4]; decide), ← hS1, bindP_k q24.1, rBlow1, ← hS2, bindP_k q57.1, rBlow2, ← hS3, bindP_f q84]
          exact ⟨by rw [hE, q84]; rfl, by rw [hE]; exact HP, hfr⟩
      · skip
        have q57 := bI_f c57
        refine V.iconst (v := 0) dX6_readDeed_60 (by decide) ?_
        refine V.zret .boolean dX6_readDeed_61 rfl (rfl) ?_
        have hE : rBlow b n S = numP 0 1 S2 := by unfold rBlow; rw [if_neg (by rw [q4]; decide), ← hS1, bindP_k q24.1, rBlow1, ← hS2, bindP_f q57]
        exact ⟨by rw [hE, q57]; rfl, by rw [hE]; exact HP, hfr⟩
    · skip
      have q24 := bI_f c24
      refine V.iconst (v := 0) dX6_readDeed_27 (by decide) ?_
      refine V.zret .boolean dX6_readDeed_28 rfl (rfl) ?_
      have hE : rBlow b n S = persP S1 := by unfold rBlow; rw [if_neg (by rw [q4]; decide), ← hS1, bindP_f q24]
      exact ⟨by rw [hE, q24]; rfl, by rw [hE]; exact HP, hfr⟩
  · skip
    have q4 := bI_t c4
    refine V.aload_n dX6_readDeed_7 rfl ?_
    refine V.iconst (v := 2) dX6_readDeed_8 (by decide) ?_
    refine V.cV1 (ci := 6) yoX6_fails ml_X6_60 im_X6_fails se_X6_fails dX6_readDeed_9 rfl H.1 (Nat.le_of_ble_eq_true rfl) (by omega) ⟨Nat.le_refl _, Nat.le_refl _⟩ rfl (Nat.le_of_ble_eq_true rfl) (fails_V (S := S) (k := 2) (by omega) HP hs) ?_
    rintro _ h9 ⟨rfl, HP, oh9⟩
    have hfr : ∀ x : Nat, ((x < a ∨ a + 23 ≤ x) ∧ (x < t ∨ t + 19 ≤ x)) → h9 x = h x := fun x hx => (oh9 x hx).trans (hfr x hx)
    obtain ⟨s, H, hr, e0, e1, e4, e5, e6, HK, HT, hb⟩ := id HP
    obtain ⟨sk, K, kr, k1, k2, k3, k4, k5⟩ := id HK
    obtain ⟨HT1, HT2, HT3, HT4⟩ := id HT
    refine V.zret .boolean dX6_readDeed_12 rfl (rfl) ?_
    have hE : rBlow b n S = (false, failP 2 S) := by unfold rBlow; rw [if_pos q4]
    exact ⟨by rw [hE]; rfl, by rw [hE]; exact HP, hfr⟩
