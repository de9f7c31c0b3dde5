/-! TextReading: LAW, a LINE -/
theorem okE_exprP {b : Nat → Int32} {n : Nat} : ∀ (f : Nat) (w m : Bool) (S : PS), okE n S → (exprP b n f w m S).1 = true → okE n (exprP b n f w m S).2 := by
  intro f
  induction f with
  | zero => intro w m S _ h; cases h
  | succ f ih =>
    intro w m S ok h
    rw [exprP] at h ⊢
    by_cases q1 : w = true
    · rw [if_pos q1] at h ⊢
      by_cases q2 : (partP m S).1 = true
      · rw [bindP_t q2] at h ⊢
        exact ih _ _ _ (okE_step (okS_partP ok q2)) h
      · have q3 : (partP m S).1 = false := by simpa using q2
        rw [bindP_f q3] at h
        exact absurd h q2
    · rw [if_neg q1] at h ⊢
      by_cases q2 : isBin S.1.2.1 = true
      · rw [if_pos q2] at h ⊢
        have h31 : ¬ S.1.2.1 = 31 := fun z => by rw [z] at q2; exact absurd q2 (by decide)
        by_cases q3 : (binP S.1.2.1 S).1 = true
        · rw [bindP_t q3] at h ⊢
          exact ih _ _ _ (okE_step (okS_binP h31 ok q3)) h
        · have q4 : (binP S.1.2.1 S).1 = false := by simpa using q3
          rw [bindP_f q4] at h
          exact absurd h q3
      · rw [if_neg q2] at h ⊢
        by_cases q3 : S.2.2.2.2.2 = 0
        · rw [if_pos q3]
          exact okS_place (by decide) ok
        · rw [if_neg q3] at h ⊢
          by_cases q4 : S.1.2.1 = 32
          · rw [if_pos q4] at h ⊢
            exact ih _ _ _ (okE_step (okS_cls ok q3).2) h
          · rw [if_neg q4] at h; cases h
def begP (S : PS) : PS := (S.1, S.2.1, S.2.2.1, S.2.2.2.1, [], 0)
theorem okE.toS {n : Nat} {S : PS} (ok : okE n S) : okS n S := by
  obtain ⟨h1, h2, h3, h4, h5, h6, h7, h8, h9⟩ := ok
  exact ⟨h1, h2, h3, h4, h5, h6, by show nat (S.2.1.2.2.2.1 1) + 0 ≤ nat (S.2.1.2.2.2.1 0); omega, rfl, by decide⟩
def rLaw3 (i : Nat) (x : Int32) (S : PS) : Bool × PS := (true, setL S (lSet (lawsOf S) i x))
def rLaw2 (b : Nat → Int32) (n i : Nat) (S : PS) : Bool × PS := bindP (exprP b n 701 true true (begP S)) (rLaw3 i ((lawsOf S).1 1))
def rLaw1 (b : Nat → Int32) (n i : Nat) (S : PS) : Bool × PS := if lTold (lawsOf S) i = true then (false, failP 3 S) else rLaw2 b n i (stepP b n S)
def rLaw0 (b : Nat → Int32) (n : Nat) (S : PS) : Bool × PS := if S.1.2.1 < 8 then (false, failP 1 S) else if S.1.2.1 ≤ 10 then rLaw1 b n (nat (S.1.2.1 - 8)) S else (false, failP 1 S)
def rLaw (b : Nat → Int32) (n : Nat) (S : PS) : Bool × PS := rLaw0 b n (stepP b n S)
theorem kind8 {k : Int32} (h1 : ¬ k < 8) (h2 : k ≤ 10) : k - 8 = nI (nat (k - 8)) ∧ nat (k - 8) < 3 := by
  have a1 : ¬ k.toInt < 8 := fun z => h1 (Int32.lt_iff_toInt_lt.mpr z)
  have a2 : k.toInt ≤ 10 := Int32.le_iff_toInt_le.mp h2
  have : k.toInt = 8 ∨ k.toInt = 9 ∨ k.toInt = 10 := by omega
  rcases this with z | z | z
  · rw [show k = 8 from Int32.toInt_inj.mp z]; decide
  · rw [show k = 9 from Int32.toInt_inj.mp z]; decide
  · rw [show k = 10 from Int32.toInt_inj.mp z]; decide
def lineP (b : Nat → Int32) (n : Nat) (S : PS) : Bool × PS := if S.1.2.1 = 0 then rPers b n S else if S.1.2.1 = 1 then rJune b n S else if S.1.2.1 = 2 then rLight b n S else if S.1.2.1 = 3 then rBlow b n S else if S.1.2.1 = 4 then rLend b n S else if S.1.2.1 = 5 then rDraft b n S else if S.1.2.1 = 6 then rSeed b n S else if S.1.2.1 = 7 then rLaw b n S else (false, failP 1 S)
set_option maxRecDepth 100000 in
set_option maxHeartbeats 2000000 in
theorem expr_V {d n0 : Nat} {κ : Kd} (hd : 6 ≤ d) {h : Hp} {a t tp n : Nat} {b : Nat → Int32} {S : PS} (HP : isP h a t tp n b S) (hs : sepP a t tp) (hn : n ≤ 700) (hbb : ∀ k, k < n → ¬ b k = -1) (okQ : okS n S) : V MX6_readExpression (d, 0, 0, n0, κ) 0 0 h 0 [some (.ref a), none, none, none, none] [] (fun v h' => v = some (.int (bI (exprP b n 701 true true (begP S)).1)) ∧ isP h' a t tp n b (exprP b n 701 true true (begP S)).2 ∧ ∀ x : Nat, ((x < a ∨ a + 23 ≤ x) ∧ (x < t ∨ t + 19 ≤ x)) → h' x = h x) := by
  obtain ⟨s, H, hr, e0, e1, e4, e5, e6, HK, HT, hb⟩ := id HP
  obtain ⟨sk, K, kr, k1, k2, k3, k4, k5⟩ := id HK
  obtain ⟨HT1, HT2, HT3, HT4⟩ := id HT
  have sp1 := hs.1
  have sp2 := hs.2.1
  have sp3 := hs.2.2
  have hfr : ∀ x : Nat, ((x < a ∨ a + 23 ≤ x) ∧ (x < t ∨ t + 19 ≤ x)) → h x = h x := fun _ _ => rfl
  refine V.aload_n dX6_readExpression_0 rfl ?_
  refine V.iconst (v := 0) dX6_readExpression_1 (by decide) ?_
  refine V.putfH okX6 5 fl_X6_171 dX6_readExpression_2 (by decide) rfl H.1 (rfl) (rfl) (Nat.le_of_ble_eq_true rfl) (fun h1 eh1 oh1 => ?_)
  have H := isR.setI C6_ok H 5 _ (fun _ _ => rfl) eh1 oh1
  have K := K.kept C7_ok (fun b hb1 hb2 => oh1 b (by have hb3 : b < _ := hb2; simp only [C7] at hb3; omega))
  have HT1 := HT1.kept C8_ok (fun b hb1 hb2 => oh1 b (by have hb3 : b < _ := hb2; simp only [C8] at hb3; omega))
  have HT2 := HT2.kept C2_ok (fun b hb1 hb2 => oh1 b (by have hb3 : b < _ := hb2; simp only [C2] at hb3; omega))
  have HT3 := HT3.kept C2_ok (fun b hb1 hb2 => oh1 b (by have hb3 : b < _ := hb2; simp only [C2] at hb3; omega))
  have HT4 := HT4.kept (fun b hb1 hb2 => oh1 b (by omega))
  have hb := (oh1 _ (by omega)).trans hb
  have hfr : ∀ x : Nat, ((x < a ∨ a + 23 ≤ x) ∧ (x < t ∨ t + 19 ≤ x)) → h1 x = h x := fun x hx => (oh1 x (by omega)).trans (hfr x hx)
  refine V.aload_n dX6_readExpression_5 rfl ?_
  refine V.iconst (v := 0) dX6_readExpression_6 (by decide) ?_
  refine V.putfH okX6 6 fl_X6_174 dX6_readExpression_7 (by decide) rfl H.1 (rfl) (rfl) (Nat.le_of_ble_eq_true rfl) (fun h2 eh2 oh2 => ?_)
  have H := isR.setI C6_ok H 6 _ (fun _ _ => rfl) eh2 oh2
  have K := K.kept C7_ok (fun b hb1 hb2 => oh2 b (by have hb3 : b < _ := hb2; simp only [C7] at hb3; omega))
  have HT1 := HT1.kept C8_ok (fun b hb1 hb2 => oh2 b (by have hb3 : b < _ := hb2; simp only [C8] at hb3; omega))
  have HT2 := HT2.kept C2_ok (fun b hb1 hb2 => oh2 b (by have hb3 : b < _ := hb2; simp only [C2] at hb3; omega))
  have HT3 := HT3.kept C2_ok (fun b hb1 hb2 => oh2 b (by have hb3 : b < _ := hb2; simp only [C2] at hb3; omega))
  have HT4 := HT4.kept (fun b hb1 hb2 => oh2 b (by omega))
  have hb := (oh2 _ (by omega)).trans hb
  have hfr : ∀ x : Nat, ((x < a ∨ a + 23 ≤ x) ∧ (x < t ∨ t + 19 ≤ x)) → h2 x = h x := fun x hx => (oh2 x (by omega)).trans (hfr x hx)
  refine V.iconst (v := 1) dX6_readExpression_10 (by decide) ?_
  refine V.istore_n dX6_readExpression_11 (by decide) rfl ?_
  refine V.iconst (v := 1) dX6_readExpression_12 (by decide) ?_
  refine V.istore_n dX6_readExpression_13 (by decide) rfl ?_
  refine V.iconst (v := nI 0) dX6_readExpression_14 (by decide) ?_
  refine V.istore_n dX6_readExpression_15 (by decide) rfl ?_
  have HP : isP _ a t tp n b (begP S) := ⟨_, H, hr, e0, e1, trivial, rfl, rfl, ⟨_, K, kr, k1, k2, k3, k4, k5⟩, ⟨HT1, HT2, HT3, HT4⟩, hb⟩
  refine V.weak [some (.ref a), some (.int (bI true)), some (.int (bI true)), some (.int (nI 0)), none] (by simp [leL, sto1, sto2, k2c, bI]) ?_
  exact exprLoop_V (by omega) hs hn hbb 701 0 h2 true true (begP S) (by omega) okQ HP hfr
set_option maxRecDepth 100000 in
set_option maxHeartbeats 4000000 in
theorem rLaw_V {d n0 : Nat} {κ : Kd} (hd : 7 ≤ d) {h : Hp} {a t tp n : Nat} {b : Nat → Int32} {S : PS} (HP : isP h a t tp n b S) (hs : sepP a t tp) (hn : n ≤ 700) (hbb : ∀ k, k < n → ¬ b k = -1) (okQ : okS n S) : V MX6_readLaw (d, 0, 0, n0, κ) 0 0 h 0 [some (.ref a), none, none] [] (fun v h' => v = some (.int (bI (rLaw b n S).1)) ∧ isP h' a t tp n b (rLaw b n S).2 ∧ ∀ x : Nat, ((x < a ∨ a + 23 ≤ x) ∧ (x < t ∨ t + 19 ≤ x)) → h' x = h x) := by
  obtain ⟨s, H, hr, e0, e1, e4, e5, e6, HK, HT, hb⟩ := id HP
  obtain ⟨sk, K, kr, k1, k2, k3, k4, k5⟩ := id HK
  obtain ⟨HT1, HT2, HT3, HT4⟩ := id HT
  have sp1 := hs.1
  have sp2 := hs.2.1
  have sp3 := hs.2.2
  have hfr : ∀ x : Nat, ((x < a ∨ a + 23 ≤ x) ∧ (x < t ∨ t + 19 ≤ x)) → h x = h x := fun _ _ => rfl
  refine V.aload_n dX6_readLaw_0 rfl ?_
  refine V.getf okX6 2 fl_X6_18 dX6_readLaw_1 (by decide) H.1 rfl ?_
  refine V.cV0 (ci := 7) yoX7_step ml_X6_54 im_X7_step se_X7_step dX6_readLaw_4 rfl K.1 (Nat.le_of_ble_eq_true rfl) (by omega) ⟨Nat.le_refl _, Nat.le_refl _⟩ rfl (Nat.le_of_ble_eq_true rfl) (stepP_V (S := S) (by omega) HP hs hn hbb okQ.1) ?_
  rintro _ h1 ⟨rfl, HP, oh1⟩
  have hfr : ∀ x : Nat, ((x < a ∨ a + 23 ≤ x) ∧ (x < t ∨ t + 19 ≤ x)) → h1 x = h x := fun x hx => (oh1 x hx).trans (hfr x hx)
  obtain ⟨s, H, hr, e0, e1, e4, e5, e6, HK, HT, hb⟩ := id HP
  obtain ⟨sk, K, kr, k1, k2, k3, k4, k5⟩ := id HK
  obtain ⟨HT1, HT2, HT3, HT4⟩ := id HT
  obtain ⟨S1, hS1⟩ : ∃ x, x = stepP b n S := ⟨_, rfl⟩
  rw [← hS1] at HP
  have okS1 : okS n S1 := by rw [hS1]; exact okS_step okQ
  obtain ⟨s, H, hr, e0, e1, e4, e5, e6, HK, HT, hb⟩ := id HP
  obtain ⟨sk, K, kr, k1, k2, k3, k4, k5⟩ := id HK
  obtain ⟨HT1, HT2, HT3, HT4⟩ := id HT
  refine V.aload_n dX6_readLaw_7 rfl ?_
  refine V.getf okX6 2 fl_X6_18 dX6_readLaw_8 (by decide) H.1 rfl ?_
  refine V.getf okX7 3 fl_X6_43 dX6_readLaw_11 (by decide) K.1 rfl ?_
  rw [k3]
  refine V.bipush (v := 8) dX6_readLaw_14 (by decide) ?_
  refine V.icmp_lt 31 dX6_readLaw_16 (by decide) (fun c16 => ?_) (fun c16 => ?_)
  · skip
    have q14 : S1.1.2.1 < 8 := c16
    refine V.aload_n dX6_readLaw_31 rfl ?_
    refine V.iconst (v := 1) dX6_readLaw_32 (by decide) ?_
    refine V.cV1 (ci := 6) yoX6_fails ml_X6_60 im_X6_fails se_X6_fails dX6_readLaw_33 rfl H.1 (Nat.le_of_ble_eq_true rfl) (by omega) ⟨Nat.le_refl _, Nat.le_refl _⟩ rfl (Nat.le_of_ble_eq_true rfl) (fails_V (S := S1) (k := 1) (by omega) HP hs) ?_
    rintro _ h2 ⟨rfl, HP, oh2⟩
    have hfr : ∀ x : Nat, ((x < a ∨ a + 23 ≤ x) ∧ (x < t ∨ t + 19 ≤ x)) → h2 x = h x := fun x hx => (oh2 x hx).trans (hfr x hx)
    obtain ⟨s, H, hr, e0, e1, e4, e5, e6, HK, HT, hb⟩ := id HP
    obtain ⟨sk, K, kr, k1, k2, k3, k4, k5⟩ := id HK
    obtain ⟨HT1, HT2, HT3, HT4⟩ := id HT
    refine V.zret .boolean dX6_readLaw_36 rfl (rfl) ?_
    have hE : rLaw b n S = (false, failP 1 S1) := by
      unfold rLaw
      rw [← hS1, rLaw0]
      first | rw [if_pos q14] | rw [if_neg q14, if_neg q28]
    exact ⟨by rw [hE]; rfl, by rw [hE]; exact HP, hfr⟩
  · skip
    have q14 : ¬ S1.1.2.1 < 8 := c16
    refine V.aload_n dX6_readLaw_19 rfl ?_
    refine V.getf okX6 2 fl_X6_18 dX6_readLaw_20 (by decide) H.1 rfl ?_
    refine V.getf okX7 3 fl_X6_43 dX6_readLaw_23 (by decide) K.1 rfl ?_
    rw [k3]
    refine V.bipush (v := 10) dX6_readLaw_26 (by decide) ?_
    skip
    refine V.icmp_le 37 dX6_readLaw_28 (by decide) (fun c28 => ?_) (fun c28 => ?_)
    · skip
      have q28 : S1.1.2.1 ≤ 10 := c28
      refine V.aload_n dX6_readLaw_37 rfl ?_
      refine V.getf okX6 2 fl_X6_18 dX6_readLaw_38 (by decide) H.1 rfl ?_
      refine V.getf okX7 3 fl_X6_43 dX6_readLaw_41 (by decide) K.1 rfl ?_
      rw [k3]
      refine V.bipush (v := 8) dX6_readLaw_44 (by decide) ?_
      refine V.isub dX6_readLaw_46 ?_
      have hk8 := kind8 q14 q28
      refine V.eqi (y := nI (nat (S1.1.2.1 - 8))) hk8.1 ?_
      refine V.istore_n dX6_readLaw_47 (by decide) rfl ?_
      refine V.aload_n dX6_readLaw_48 rfl ?_
      refine V.getf (v := .ref (t)) okX6 3 fl_X6_25 dX6_readLaw_49 (by decide) H.1 (congrArg (fun z => some (Value.ref z)) (hr)) ?_
      refine V.getf okX8 9 fl_X6_152 dX6_readLaw_52 (by decide) HT1.1 rfl ?_
      refine V.iload_n dX6_readLaw_55 rfl ?_
      obtain ⟨g4, H4⟩ := id HT4
      refine V.cV1 (ci := 4) yoX4_isTold ml_X6_156 im_X4_isTold se_X4_isTold dX6_readLaw_56 rfl H4.1 (Nat.le_of_ble_eq_true rfl) (by omega) ⟨Nat.le_refl _, Nat.le_refl _⟩ rfl (Nat.le_of_ble_eq_true rfl) (lTold_V (by omega) H4 hk8.2) (V.rdK ?_)
      refine V.if_eq 68 dX6_readLaw_59 (by decide) (fun c59 => ?_) (fun c59 => ?_)
      · skip
        have q59 := bI_f c59
        refine V.aload_n dX6_readLaw_68 rfl ?_
        refine V.getf okX6 2 fl_X6_18 dX6_readLaw_69 (by decide) H.1 rfl ?_
        refine V.cV0 (ci := 7) yoX7_step ml_X6_54 im_X7_step se_X7_step dX6_readLaw_72 rfl K.1 (Nat.le_of_ble_eq_true rfl) (by omega) ⟨Nat.le_refl _, Nat.le_refl _⟩ rfl (Nat.le_of_ble_eq_true rfl) (stepP_V (S := S1) (by omega) HP hs hn hbb okS1.1) ?_
        rintro _ h3 ⟨rfl, HP, oh3⟩
        have hfr : ∀ x : Nat, ((x < a ∨ a + 23 ≤ x) ∧ (x < t ∨ t + 19 ≤ x)) → h3 x = h x := fun x hx => (oh3 x hx).trans (hfr x hx)
        obtain ⟨s, H, hr, e0, e1, e4, e5, e6, HK, HT, hb⟩ := id HP
        obtain ⟨sk, K, kr, k1, k2, k3, k4, k5⟩ := id HK
        obtain ⟨HT1, HT2, HT3, HT4⟩ := id HT
        obtain ⟨S2, hS2⟩ : ∃ x, x = stepP b n S1 := ⟨_, rfl⟩
        rw [← hS2] at HP
        have okS2 : okS n S2 := by rw [hS2]; exact okS_step okS1
        obtain ⟨s, H, hr, e0, e1, e4, e5, e6, HK, HT, hb⟩ := id HP
        obtain ⟨sk, K, kr, k1, k2, k3, k4, k5⟩ := id HK
        obtain ⟨HT1, HT2, HT3, HT4⟩ := id HT
        refine V.aload_n dX6_readLaw_75 rfl ?_
        refine V.getf (v := .ref (t)) okX6 3 fl_X6_25 dX6_readLaw_76 (by decide) H.1 (congrArg (fun z => some (Value.ref z)) (hr)) ?_
        refine V.getf okX8 9 fl_X6_152 dX6_readLaw_79 (by decide) HT1.1 rfl ?_
        obtain ⟨g4, H4⟩ := id HT4
        refine V.cV0 (ci := 4) yoX4_placedSoFar ml_X6_161 im_X4_placedSoFar se_X4_placedSoFar dX6_readLaw_82 rfl H4.1 (Nat.le_of_ble_eq_true rfl) (by omega) ⟨Nat.le_refl _, Nat.le_refl _⟩ rfl (Nat.le_of_ble_eq_true rfl) (lPlaced_V (by omega) H4) (V.rdK ?_)
        refine V.istore_n dX6_readLaw_85 (by decide) rfl ?_
        refine V.aload_n dX6_readLaw_86 rfl ?_
        refine V.cV0 (ci := 6) yoX6_readExpression ml_X6_165 im_X6_readExpression se_X6_readExpression dX6_readLaw_87 rfl H.1 (Nat.le_of_ble_eq_true rfl) (by omega) ⟨Nat.le_refl _, Nat.le_refl _⟩ rfl (Nat.le_of_ble_eq_true rfl) (expr_V (S := S2) (by omega) HP hs hn hbb okS2) ?_
        rintro _ h4 ⟨rfl, HP, oh4⟩
        have hfr : ∀ x : Nat, ((x < a ∨ a + 23 ≤ x) ∧ (x < t ∨ t + 19 ≤ x)) → h4 x = h x := fun x hx => (oh4 x hx).trans (hfr x hx)
        obtain ⟨s, H, hr, e0, e1, e4, e5, e6, HK, HT, hb⟩ := id HP
        obtain ⟨sk, K, kr, k1, k2, k3, k4, k5⟩ := id HK
        obtain ⟨HT1, HT2, HT3, HT4⟩ := id HT
        refine V.if_ne 95 dX6_readLaw_90 (by decide) (fun c90 => ?_) (fun c90 => ?_)
        · skip
          have q90 : (exprP b n 701 true true (begP S2)).1 = true := bI_t c90
          obtain ⟨S3, hS3⟩ : ∃ x, x = (exprP b n 701 true true (begP S2)).2 := ⟨_, rfl⟩
          have r90 : exprP b n 701 true true (begP S2) = (true, S3) := Prod.ext q90 hS3.symm
          rw [← hS3] at HP
          obtain ⟨s, H, hr, e0, e1, e4, e5, e6, HK, HT, hb⟩ := id HP
          obtain ⟨sk, K, kr, k1, k2, k3, k4, k5⟩ := id HK
          obtain ⟨HT1, HT2, HT3, HT4⟩ := id HT
          refine V.aload_n dX6_readLaw_95 rfl ?_
          refine V.getf (v := .ref (t)) okX6 3 fl_X6_25 dX6_readLaw_96 (by decide) H.1 (congrArg (fun z => some (Value.ref z)) (hr)) ?_
          refine V.getf okX8 9 fl_X6_152 dX6_readLaw_99 (by decide) HT1.1 rfl ?_
          refine V.iload_n dX6_readLaw_102 rfl ?_
          refine V.iload_n dX6_readLaw_103 rfl ?_
          obtain ⟨g4, H4⟩ := id HT4
          refine V.cV2 (ci := 4) yoX4_setRule ml_X6_168 im_X4_setRule se_X4_setRule dX6_readLaw_104 rfl H4.1 (Nat.le_of_ble_eq_true rfl) (by omega) ⟨Nat.le_refl _, Nat.le_refl _⟩ rfl (Nat.le_of_ble_eq_true rfl) (lSet_V (by omega) H4 hk8.2) ?_
          rintro _ h5 ⟨rfl, HL, ooh5⟩
          obtain ⟨HP, oh5⟩ := isP.told HP hs (isT.laws (L := lSet (lawsOf S3) (nat (S1.1.2.1 - 8)) ((lawsOf S2).1 1)) HT ⟨g4, HL⟩ ooh5)
          have hfr : ∀ x : Nat, ((x < a ∨ a + 23 ≤ x) ∧ (x < t ∨ t + 19 ≤ x)) → h5 x = h x := fun x hx => (oh5 x hx).trans (hfr x hx)
          
          refine V.iconst (v := 1) dX6_readLaw_107 (by decide) ?_
          refine V.zret .boolean dX6_readLaw_108 rfl (rfl) ?_
          have hE : rLaw b n S = (true, setL S3 (lSet (lawsOf S3) (nat (S1.1.2.1 - 8)) ((lawsOf S2).1 1))) := by unfold rLaw; rw [← hS1, rLaw0, if_neg q14, if_pos q28, rLaw1, if_neg (show ¬ lTold (lawsOf S1) (nat (S1.1.2.1 - 8)) = true from fun z => absurd (q59.symm.trans z) (by decide)), ← hS2, rLaw2, bindP_k r90, rLaw3]
          exact ⟨by rw [hE]; rfl, by rw [hE]; exact HP, hfr⟩
        · skip
          have q90 := bI_f c90
          refine V.iconst (v := 0) dX6_readLaw_93 (by decide) ?_
          refine V.zret .boolean dX6_readLaw_94 rfl (rfl) ?_
          have hE : rLaw b n S = exprP b n 701 true true (begP S2) := by unfold rLaw; rw [← hS1, rLaw0, if_neg q14, if_pos q28, rLaw1, if_neg (show ¬ lTold (lawsOf S1) (nat (S1.1.2.1 - 8)) = true from fun z => absurd (q59.symm.trans z) (by decide)), ← hS2, rLaw2, bindP_f q90]
          exact ⟨by rw [hE, q90]; rfl, by rw [hE]; exact HP, hfr⟩
      · skip
        have q59 := bI_t c59
        refine V.aload_n dX6_readLaw_62 rfl ?_
        refine V.iconst (v := 3) dX6_readLaw_63 (by decide) ?_
        refine V.cV1 (ci := 6) yoX6_fails ml_X6_60 im_X6_fails se_X6_fails dX6_readLaw_64 rfl H.1 (Nat.le_of_ble_eq_true rfl) (by omega) ⟨Nat.le_refl _, Nat.le_refl _⟩ rfl (Nat.le_of_ble_eq_true rfl) (fails_V (S := S1) (k := 3) (by omega) HP hs) ?_
        rintro _ h6 ⟨rfl, HP, oh6⟩
        have hfr : ∀ x : Nat, ((x < a ∨ a + 23 ≤ x) ∧ (x < t ∨ t + 19 ≤ x)) → h6 x = h x := fun x hx => (oh6 x hx).trans (hfr x hx)
        obtain ⟨s, H, hr, e0, e1, e4, e5, e6, HK, HT, hb⟩ := id HP
        obtain ⟨sk, K, kr, k1, k2, k3, k4, k5⟩ := id HK
        obtain ⟨HT1, HT2, HT3, HT4⟩ := id HT
        refine V.zret .boolean dX6_readLaw_67 rfl (rfl) ?_
        have hE : rLaw b n S = (false, failP 3 S1) := by unfold rLaw; rw [← hS1, rLaw0, if_neg q14, if_pos q28, rLaw1, if_pos (show lTold (lawsOf S1) (nat (S1.1.2.1 - 8)) = true from q59)]
        exact ⟨by rw [hE]; rfl, by rw [hE]; exact HP, hfr⟩
    · skip
      have q28 : ¬ S1.1.2.1 ≤ 10 := c28
      refine V.aload_n dX6_readLaw_31 rfl ?_
      refine V.iconst (v := 1) dX6_readLaw_32 (by decide) ?_
      refine V.cV1 (ci := 6) yoX6_fails ml_X6_60 im_X6_fails se_X6_fails dX6_readLaw_33 rfl H.1 (Nat.le_of_ble_eq_true rfl) (by omega) ⟨Nat.le_refl _, Nat.le_refl _⟩ rfl (Nat.le_of_ble_eq_true rfl) (fails_V (S := S1) (k := 1) (by omega) HP hs) ?_
      rintro _ h7 ⟨rfl, HP, oh7⟩
      have hfr : ∀ x : Nat, ((x < a ∨ a + 23 ≤ x) ∧ (x < t ∨ t + 19 ≤ x)) → h7 x = h x := fun x hx => (oh7 x hx).trans (hfr x hx)
      obtain ⟨s, H, hr, e0, e1, e4, e5, e6, HK, HT, hb⟩ := id HP
      obtain ⟨sk, K, kr, k1, k2, k3, k4, k5⟩ := id HK
      obtain ⟨HT1, HT2, HT3, HT4⟩ := id HT
      refine V.zret .boolean dX6_readLaw_36 rfl (rfl) ?_
      have hE : rLaw b n S = (false, failP 1 S1) := by
        unfold rLaw
        rw [← hS1, rLaw0]
        first | rw [if_pos q14] | rw [if_neg q14, if_neg q28]
      exact ⟨by rw [hE]; rfl, by rw [hE]; exact HP, hfr⟩
set_option maxRecDepth 100000 in
set_option maxHeartbeats 2000000 in
theorem line_V {d n0 : Nat} {κ : Kd} (hd : 8 ≤ d) {h : Hp} {a t tp n : Nat} {b : Nat → Int32} {S : PS} (HP : isP h a t tp n b S) (hs : sepP a t tp) (hn : n ≤ 700) (hbb : ∀ k, k < n → ¬ b k = -1) (okQ : okS n S) : V MX6_readLine (d, 0, 0, n0, κ) 0 0 h 0 [some (.ref a)] [] (fun v h' => v = some (.int (bI (lineP b n S).1)) ∧ isP h' a t tp n b (lineP b n S).2 ∧ ∀ x : Nat, ((x < a ∨ a + 23 ≤ x) ∧ (x < t ∨ t + 19 ≤ x)) → h' x = h x) := by
  obtain ⟨s, H, hr, e0, e1, e4, e5, e6, HK, HT, hb⟩ := id HP
  obtain ⟨sk, K, kr, k1, k2, k3, k4, k5⟩ := id HK
  obtain ⟨HT1, HT2, HT3, HT4⟩ := id HT
  have sp1 := hs.1
  have sp2 := hs.2.1
  have sp3 := hs.2.2
  have hfr : ∀ x : Nat, ((x < a ∨ a + 23 ≤ x) ∧ (x < t ∨ t + 19 ≤ x)) → h x = h x := fun _ _ => rfl
  refine V.aload_n dX6_readLine_0 rfl ?_
  refine V.getf okX6 2 fl_X6_18 dX6_readLine_1 (by decide) H.1 rfl ?_
  refine V.getf okX7 3 fl_X6_43 dX6_readLine_4 (by decide) K.1 rfl ?_
  rw [k3]
  refine V.tswG [(0, 52), (1, 57), (2, 62), (3, 74), (4, 86), (5, 91), (6, 96), (7, 101)] 106 dX6_readLine_7 (by decide) (by decide +kernel) (fa_cons (fun cs7 => ?_) (fa_cons (fun cs7 => ?_) (fa_cons (fun cs7 => ?_) (fa_cons (fun cs7 => ?_) (fa_cons (fun cs7 => ?_) (fa_cons (fun cs7 => ?_) (fa_cons (fun cs7 => ?_) (fa_cons (fun cs7 => ?_) fa_nil)))))))) (fun co7 => ?_)
  · skip
    refine V.aload_n dX6_readLine_52 rfl ?_
    refine V.cV0 (ci := 6) yoX6_readPerson ml_X6_70 im_X6_readPerson se_X6_readPerson dX6_readLine_53 rfl H.1 (Nat.le_of_ble_eq_true rfl) (by omega) ⟨Nat.le_refl _, Nat.le_refl _⟩ rfl (Nat.le_of_ble_eq_true rfl) (rPers_V (S := S) (by omega) HP hs hn hbb okQ) ?_
    rintro _ h1 ⟨rfl, HP, oh1⟩
    have hfr : ∀ x : Nat, ((x < a ∨ a + 23 ≤ x) ∧ (x < t ∨ t + 19 ≤ x)) → h1 x = h x := fun x hx => (oh1 x hx).trans (hfr x hx)
    obtain ⟨s, H, hr, e0, e1, e4, e5, e6, HK, HT, hb⟩ := id HP
    obtain ⟨sk, K, kr, k1, k2, k3, k4, k5⟩ := id HK
    obtain ⟨HT1, HT2, HT3, HT4⟩ := id HT
    refine V.zret .boolean dX6_readLine_56 rfl (bI_n _) ?_
    have hE : lineP b n S = rPers b n S := by unfold lineP; rw [cs7]; rw [if_pos rfl]
    exact ⟨by rw [hE], by rw [hE]; exact HP, hfr⟩
  · skip
    refine V.aload_n dX6_readLine_57 rfl ?_
    refine V.cV0 (ci := 6) yoX6_readJune ml_X6_73 im_X6_readJune se_X6_readJune dX6_readLine_58 rfl H.1 (Nat.le_of_ble_eq_true rfl) (by omega) ⟨Nat.le_refl _, Nat.le_refl _⟩ rfl (Nat.le_of_ble_eq_true rfl) (rJune_V (S := S) (by omega) HP hs hn hbb okQ) ?_
    rintro _ h2 ⟨rfl, HP, oh2⟩
    have hfr : ∀ x : Nat, ((x < a ∨ a + 23 ≤ x) ∧ (x < t ∨ t + 19 ≤ x)) → h2 x = h x := fun x hx => (oh2 x hx).trans (hfr x hx)
    obtain ⟨s, H, hr, e0, e1, e4, e5, e6, HK, HT, hb⟩ := id HP
    obtain ⟨sk, K, kr, k1, k2, k3, k4, k5⟩ := id HK
    obtain ⟨HT1, HT2, HT3, HT4⟩ := id HT
    refine V.zret .boolean dX6_readLine_61 rfl (bI_n _) ?_
    have hE : lineP b n S = rJune b n S := by unfold lineP; rw [cs7]; rw [if_neg (by decide), if_pos rfl]
    exact ⟨by rw [hE], by rw [hE]; exact HP, hfr⟩
  · skip
    refine V.aload_n dX6_readLine_62 rfl ?_
    refine V.aload_n dX6_readLine_63 rfl ?_
    refine V.getf (v := .ref (t)) okX6 3 fl_X6_25 dX6_readLine_64 (by decide) H.1 (congrArg (fun z => some (Value.ref z)) (hr)) ?_
    refine V.getf okX8 7 fl_X6_76 dX6_readLine_67 (by decide) HT1.1 rfl ?_
    refine V.cV1 (ci := 6) yoX6_readDeed ml_X6_80 im_X6_readDeed se_X6_readDeed dX6_readLine_70 rfl H.1 (Nat.le_of_ble_eq_true rfl) (by omega) ⟨Nat.le_refl _, Nat.le_refl _⟩ rfl (Nat.le_of_ble_eq_true rfl) (rLight_V (S := S) (by omega) HP hs hn hbb okQ) ?_
    rintro _ h3 ⟨rfl, HP, oh3⟩
    have hfr : ∀ x : Nat, ((x < a ∨ a + 23 ≤ x) ∧ (x < t ∨ t + 19 ≤ x)) → h3 x = h x := fun x hx => (oh3 x hx).trans (hfr x hx)
    obtain ⟨s, H, hr, e0, e1, e4, e5, e6, HK, HT, hb⟩ := id HP
    obtain ⟨sk, K, kr, k1, k2, k3, k4, k5⟩ := id HK
    obtain ⟨HT1, HT2, HT3, HT4⟩ := id HT
    refine V.zret .boolean dX6_readLine_73 rfl (bI_n _) ?_
    have hE : lineP b n S = rLight b n S := by unfold lineP; rw [cs7]; rw [if_neg (by decide), if_neg (by decide), if_pos rfl]
    exact ⟨by rw [hE], by rw [hE]; exact HP, hfr⟩
  · skip
    refine V.aload_n dX6_readLine_74 rfl ?_
    refine V.aload_n dX6_readLine_75 rfl ?_
    refine V.getf (v := .ref (t)) okX6 3 fl_X6_25 dX6_readLine_76 (by decide) H.1 (congrArg (fun z => some (Value.ref z)) (hr)) ?_
    refine V.getf okX8 8 fl_X6_84 dX6_readLine_79 (by decide) HT1.1 rfl ?_
    refine V.cV1 (ci := 6) yoX6_readDeed ml_X6_80 im_X6_readDeed se_X6_readDeed dX6_readLine_82 rfl H.1 (Nat.le_of_ble_eq_true rfl) (by omega) ⟨Nat.le_refl _, Nat.le_refl _⟩ rfl (Nat.le_of_ble_eq_true rfl) (rBlow_V (S := S) (by omega) HP hs hn hbb okQ) ?_
    rintro _ h4 ⟨rfl, HP, oh4⟩
    have hfr : ∀ x : Nat, ((x < a ∨ a + 23 ≤ x) ∧ (x < t ∨ t + 19 ≤ x)) → h4 x = h x := fun x hx => (oh4 x hx).trans (hfr x hx)
    obtain ⟨s, H, hr, e0, e1, e4, e5, e6, HK, HT, hb⟩ := id HP
    obtain ⟨sk, K, kr, k1, k2, k3, k4, k5⟩ := id HK
    obtain ⟨HT1, HT2, HT3, HT4⟩ := id HT
    refine V.zret .boolean dX6_readLine_85 rfl (bI_n _) ?_
    have hE : lineP b n S = rBlow b n S := by unfold lineP; rw [cs7]; rw [if_neg (by decide), if_neg (by decide), if_neg (by decide), if_pos rfl]
    exact ⟨by rw [hE], by rw [hE]; exact HP, hfr⟩
  · skip
    refine V.aload_n dX6_readLine_86 rfl ?_
    refine V.cV0 (ci := 6) yoX6_readLend ml_X6_87 im_X6_readLend se_X6_readLend dX6_readLine_87 rfl H.1 (Nat.le_of_ble_eq_true rfl) (by omega) ⟨Nat.le_refl _, Nat.le_refl _⟩ rfl (Nat.le_of_ble_eq_true rfl) (rLend_V (S := S) (by omega) HP hs hn hbb okQ) ?_
    rintro _ h5 ⟨rfl, HP, oh5⟩
    have hfr : ∀ x : Nat, ((x < a ∨ a + 23 ≤ x) ∧ (x < t ∨ t + 19 ≤ x)) → h5 x = h x := fun x hx => (oh5 x hx).trans (hfr x hx)
    obtain ⟨s, H, hr, e0, e1, e4, e5, e6, HK, HT, hb⟩ := id HP
    obtain ⟨sk, K, kr, k1, k2, k3, k4, k5⟩ := id HK
    obtain ⟨HT1, HT2, HT3, HT4⟩ := id HT
    refine V.zret .boolean dX6_readLine_90 rfl (bI_n _) ?_
    have hE : lineP b n S = rLend b n S := by unfold lineP; rw [cs7]; rw [if_neg (by decide), if_neg (by decide), if_neg (by decide), if_neg (by decide), if_pos rfl]
    exact ⟨by rw [hE], by rw [hE]; exact HP, hfr⟩
  · skip
    refine V.aload_n dX6_readLine_91 rfl ?_
    refine V.cV0 (ci := 6) yoX6_readDraft ml_X6_90 im_X6_readDraft se_X6_readDraft dX6_readLine_92 rfl H.1 (Nat.le_of_ble_eq_true rfl) (by omega) ⟨Nat.le_refl _, Nat.le_refl _⟩ rfl (Nat.le_of_ble_eq_true rfl) (rDraft_V (S := S) (by omega) HP hs hn hbb okQ) ?_
    rintro _ h6 ⟨rfl, HP, oh6⟩
    have hfr : ∀ x : Nat, ((x < a ∨ a + 23 ≤ x) ∧ (x < t ∨ t + 19 ≤ x)) → h6 x = h x := fun x hx => (oh6 x hx).trans (hfr x hx)
    obtain ⟨s, H, hr, e0, e1, e4, e5, e6, HK, HT, hb⟩ := id HP
    obtain ⟨sk, K, kr, k1, k2, k3, k4, k5⟩ := id HK
    obtain ⟨HT1, HT2, HT3, HT4⟩ := id HT
    refine V.zret .boolean dX6_readLine_95 rfl (bI_n _) ?_
    have hE : lineP b n S = rDraft b n S := by unfold lineP; rw [cs7]; rw [if_neg (by decide), if_neg (by decide), if_neg (by decide), if_neg (by decide), if_neg (by decide), if_pos rfl]
    exact ⟨by rw [hE], by rw [hE]; exact HP, hfr⟩
  · skip
    refine V.aload_n dX6_readLine_96 rfl ?_
    refine V.cV0 (ci := 6) yoX6_readSeed ml_X6_93 im_X6_readSeed se_X6_readSeed dX6_readLine_97 rfl H.1 (Nat.le_of_ble_eq_true rfl) (by omega) ⟨Nat.le_refl _, Nat.le_refl _⟩ rfl (Nat.le_of_ble_eq_true rfl) (rSeed_V (S := S) (by omega) HP hs hn hbb okQ) ?_
    rintro _ h7 ⟨rfl, HP, oh7⟩
    have hfr : ∀ x : Nat, ((x < a ∨ a + 23 ≤ x) ∧ (x < t ∨ t + 19 ≤ x)) → h7 x = h x := fun x hx => (oh7 x hx).trans (hfr x hx)
    obtain ⟨s, H, hr, e0, e1, e4, e5, e6, HK, HT, hb⟩ := id HP
    obtain ⟨sk, K, kr, k1, k2, k3, k4, k5⟩ := id HK
    obtain ⟨HT1, HT2, HT3, HT4⟩ := id HT
    refine V.zret .boolean dX6_readLine_100 rfl (bI_n _) ?_
    have hE : lineP b n S = rSeed b n S := by unfold lineP; rw [cs7]; rw [if_neg (by decide), if_neg (by decide), if_neg (by decide), if_neg (by decide), if_neg (by decide), if_neg (by decide), if_pos rfl]
    exact ⟨by rw [hE], by rw [hE]; exact HP, hfr⟩
  · skip
    refine V.aload_n dX6_readLine_101 rfl ?_
    refine V.cV0 (ci := 6) yoX6_readLaw ml_X6_96 im_X6_readLaw se_X6_readLaw dX6_readLine_102 rfl H.1 (Nat.le_of_ble_eq_true rfl) (by omega) ⟨Nat.le_refl _, Nat.le_refl _⟩ rfl (Nat.le_of_ble_eq_true rfl) (rLaw_V (S := S) (by omega) HP hs hn hbb okQ) ?_
    rintro _ h8 ⟨rfl, HP, oh8⟩
    have hfr : ∀ x : Nat, ((x < a ∨ a + 23 ≤ x) ∧ (x < t ∨ t + 19 ≤ x)) → h8 x = h x := fun x hx => (oh8 x hx).trans (hfr x hx)
    obtain ⟨s, H, hr, e0, e1, e4, e5, e6, HK, HT, hb⟩ := id HP
    obtain ⟨sk, K, kr, k1, k2, k3, k4, k5⟩ := id HK
    obtain ⟨HT1, HT2, HT3, HT4⟩ := id HT
    refine V.zret .boolean dX6_readLine_105 rfl (bI_n _) ?_
    have hE : lineP b n S = rLaw b n S := by unfold lineP; rw [cs7]; rw [if_neg (by decide), if_neg (by decide), if_neg (by decide), if_neg (by decide), if_neg (by decide), if_neg (by decide), if_neg (by decide), if_pos rfl]
    exact ⟨by rw [hE], by rw [hE]; exact HP, hfr⟩
  · skip
    refine V.aload_n dX6_readLine_106 rfl ?_
    refine V.iconst (v := 1) dX6_readLine_107 (by decide) ?_
    refine V.cV1 (ci := 6) yoX6_fails ml_X6_60 im_X6_fails se_X6_fails dX6_readLine_108 rfl H.1 (Nat.le_of_ble_eq_true rfl) (by omega) ⟨Nat.le_refl _, Nat.le_refl _⟩ rfl (Nat.le_of_ble_eq_true rfl) (fails_V (S := S) (k := 1) (by omega) HP hs) ?_
    rintro _ h9 ⟨rfl, HP, oh9⟩
    have hfr : ∀ x : Nat, ((x < a ∨ a + 23 ≤ x) ∧ (x < t ∨ t + 19 ≤ x)) → h9 x = h x := fun x hx => (oh9 x hx).trans (hfr x hx)
    obtain ⟨s, H, hr, e0, e1, e4, e5, e6, HK, HT, hb⟩ := id HP
    obtain ⟨sk, K, kr, k1, k2, k3, k4, k5⟩ := id HK
    obtain ⟨HT1, HT2, HT3, HT4⟩ := id HT
    refine V.zret .boolean dX6_readLine_111 rfl (rfl) ?_
    have hE : lineP b n S = (false, failP 1 S) := by unfold lineP; rw [if_neg (co7 (0, 52) (by simp)), if_neg (co7 (1, 57) (by simp)), if_neg (co7 (2, 62) (by simp)), if_neg (co7 (3, 74) (by simp)), if_neg (co7 (4, 86) (by simp)), if_neg (co7 (5, 91) (by simp)), if_neg (co7 (6, 96) (by simp)), if_neg (co7 (7, 101) (by simp))]
    exact ⟨by rw [hE]; rfl, by rw [hE]; exact HP, hfr⟩
