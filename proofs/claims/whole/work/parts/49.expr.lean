/-! TextReading: an expression -/
theorem lvl_ge1 {k : Int32} (h : ¬ k = 31) : ¬ lvl k < 1 := by
  unfold lvl
  rw [if_neg h]
  repeat' split
  all_goals decide
theorem pop_head {lv : Int32} {x : Int32} {r : List Int32} : ∀ (l : List Int32) (L : St), (popTo lv l L).2 = x :: r → lvl x < lv := by
  intro l
  induction l with
  | nil => intro L h; cases h
  | cons y l ih =>
    intro L h
    unfold popTo at h
    by_cases q : lvl y < lv
    · rw [if_pos q] at h
      cases h
      exact q
    · rw [if_neg q] at h
      exact ih _ h
theorem okS_knotB {n : Nat} {S : PS} {k : PS → Bool × PS} (ok : okE n S) (h : (bindP (knotP S) k).1 = true) (hk : ∀ S1, okE n S1 → gapS S1 → okE n (k S1).2) : okE n (bindP (knotP S) k).2 := by
  unfold knotP at h ⊢
  by_cases q : (lawsOf S).1 0 < 64
  · rw [if_pos q] at h ⊢
    have := okS_knot ok q
    exact hk _ this.1 this.2
  · rw [if_neg q] at h; cases h
theorem okS_leafP {n : Nat} {S : PS} (ok : okE n S) (h : (leafP S).1 = true) : okE n (leafP S).2 := by
  have h2 : (leaf2 S).1 = true → okE n (leaf2 S).2 := fun z => okS_knotB ok z (fun S1 o g => (okS_leaf o g).2)
  unfold leafP at h ⊢
  by_cases q1 : S.1.2.1 = -3
  · rw [if_pos q1] at h ⊢
    by_cases q2 : S.1.2.2.2 ≤ 9999
    · rw [if_pos q2] at h ⊢; exact h2 h
    · rw [if_neg q2] at h; cases h
  · rw [if_neg q1] at h ⊢
    by_cases q2 : S.1.2.1 < 11
    · rw [if_pos q2] at h; cases h
    · rw [if_neg q2] at h ⊢
      by_cases q3 : S.1.2.1 ≤ 17
      · rw [if_pos q3] at h ⊢; exact h2 h
      · rw [if_neg q3] at h; cases h
theorem okS_partP {n : Nat} {S : PS} {m : Bool} (ok : okE n S) (h : (partP m S).1 = true) : okE n (partP m S).2 := by
  unfold partP at h ⊢
  by_cases q1 : S.1.2.1 = 31
  · rw [if_pos q1] at h ⊢
    by_cases q2 : S.2.2.2.2.2 < 8
    · rw [if_pos q2]; exact (okS_open ok q2).2
    · rw [if_neg q2] at h; cases h
  · rw [if_neg q1] at h ⊢
    by_cases q2 : S.1.2.1 = 20
    · rw [if_pos q2] at h ⊢
      by_cases q3 : m = true
      · rw [if_pos q3] at h ⊢
        exact okS_knotB ok h (fun S1 o g => (okS_push o g (by decide)).2)
      · rw [if_neg q3] at h ⊢; exact okS_leafP ok h
    · rw [if_neg q2] at h ⊢; exact okS_leafP ok h
theorem okS_binP {n : Nat} {S : PS} {k : Int32} (hk : ¬ k = 31) (ok : okE n S) (h : (binP k S).1 = true) : okE n (binP k S).2 := by
  have o1 := okS_place (lvl_pos hk).2 ok
  have h2 : (bin2 k (placeP (lvl k + 1) S)).1 = true → okE n (bin2 k (placeP (lvl k + 1) S)).2 := fun z => okS_knotB o1 z (fun S1 o g => (okS_push (okS_place (lvl_pos hk).1 o) (gapS_place (lvl_pos hk).1 o g) hk).2)
  unfold binP at h ⊢
  by_cases q1 : lvl k = lvl 35
  · rw [if_pos q1] at h ⊢
    by_cases q2 : clashB k (placeP (lvl k + 1) S) = true
    · rw [if_pos q2] at h; cases h
    · rw [if_neg q2] at h ⊢; exact h2 h
  · rw [if_neg q1] at h ⊢; exact h2 h
def clsP (S : PS) : PS := (S.1, S.2.1, S.2.2.1, S.2.2.2.1, S.2.2.2.2.1.tail, S.2.2.2.2.2 - 1)
theorem okS_cls {n : Nat} {S : PS} (ok : okE n S) (ho : ¬ S.2.2.2.2.2 = 0) : (∃ r, (placeP 1 S).2.2.2.2.1 = 31 :: r) ∧ okE n (clsP (placeP 1 S)) := by
  have o1 := okS_place (lv := 1) (by decide) ok
  obtain ⟨h1, h2, h3, h4, h5⟩ := o1.2.2.2.2
  have ho1 : (placeP 1 S).2.2.2.2.2 = S.2.2.2.2.2 := rfl
  cases hq : (placeP 1 S).2.2.2.2.1 with
  | nil =>
    rw [hq] at h4
    exact absurd (h4.symm.trans rfl) (by rw [ho1]; exact ho)
  | cons x r =>
    have hx : x = 31 := by
      by_cases z : x = 31
      · exact z
      · exact absurd (pop_head _ _ hq) (lvl_ge1 z)
    subst hx
    rw [hq] at h3 h4
    rw [nonO_o] at h3
    rw [opnO_o] at h4
    refine ⟨⟨r, rfl⟩, o1.1, o1.2.1, o1.2.2.1, o1.2.2.2.1, h1, h2, ?_, ?_, ?_⟩
    · show nat ((placeP 1 S).2.1.2.2.2.1 1) + nonO (placeP 1 S).2.2.2.2.1.tail ≤ _
      rw [hq]
      exact h3
    · show opnO (placeP 1 S).2.2.2.2.1.tail = (placeP 1 S).2.2.2.2.2 - 1
      rw [hq]
      show opnO r = _
      omega
    · show (placeP 1 S).2.2.2.2.2 - 1 ≤ 8
      omega
def isNO (k : Int32) : Bool := decide (k = 20) || decide (k = 31)
def isAO (k : Int32) : Bool := decide (k = 19) || decide (k = 18)
def exprP (b : Nat → Int32) (n : Nat) : Nat → Bool → Bool → PS → Bool × PS
  | 0, _, _, S => (false, failP 1 S)
  | f + 1, w, m, S =>
    if w = true then bindP (partP m S) (fun S1 => exprP b n f (isNO S.1.2.1) (isNO S.1.2.1) (stepP b n S1)) else
    if isBin S.1.2.1 = true then bindP (binP S.1.2.1 S) (fun S1 => exprP b n f true (isAO S.1.2.1) (stepP b n S1)) else
    if S.2.2.2.2.2 = 0 then (true, placeP 1 S) else
    if S.1.2.1 = 32 then exprP b n f w m (stepP b n (clsP (placeP 1 S))) else (false, failP 1 S)
theorem nI_inj0 {x y : Nat} (hx : x < 2 ^ 31) (hy : y < 2 ^ 31) (h : nI x = nI y) : x = y := by
  have h1 := congrArg Int32.toNatClampNeg h
  rwa [nI_clamp hx, nI_clamp hy] at h1
set_option maxRecDepth 100000 in
set_option maxHeartbeats 4000000 in
theorem exprLoop_V {d n0 : Nat} {κ : Kd} (hd : 6 ≤ d) {h : Hp} {a t tp n : Nat} {b : Nat → Int32} (hs : sepP a t tp) (hn : n ≤ 700) (hbb : ∀ k, k < n → ¬ b k = -1) : ∀ (f i : Nat) (g2 : Hp) (w m : Bool) (S : PS), i + f = 701 → okE n S → isP g2 a t tp n b S → (∀ x : Nat, ((x < a ∨ a + 23 ≤ x) ∧ (x < t ∨ t + 19 ≤ x)) → g2 x = h x) → V MX6_readExpression (d, 0, 0, n0, κ) 0 0 g2 16 [some (.ref a), some (.int (bI w)), some (.int (bI m)), some (.int (nI i)), none] [] (fun v h' => v = some (.int (bI (exprP b n f w m S).1)) ∧ isP h' a t tp n b (exprP b n f w m S).2 ∧ ∀ x : Nat, ((x < a ∨ a + 23 ≤ x) ∧ (x < t ∨ t + 19 ≤ x)) → h' x = h x) := by
  intro f
  induction f with
  | zero =>
    intro i g2 w m S hf okQ HP hfr
    obtain ⟨s, H, hr, e0, e1, e4, e5, e6, HK, HT, hb⟩ := id HP
    obtain ⟨sk, K, kr, k1, k2, k3, k4, k5⟩ := id HK
    obtain ⟨HT1, HT2, HT3, HT4⟩ := id HT
    have sp1 := hs.1
    have sp2 := hs.2.1
    have sp3 := hs.2.2
    refine V.iload_n dX6_readExpression_16 rfl ?_
    refine V.sipush (v := nI 700) dX6_readExpression_17 (by decide) ?_
    refine V.icmp_gt 183 dX6_readExpression_20 (by decide) (fun _ => ?_) (fun z => absurd (nI_lt (by omega) (by omega)) z)
    refine V.aload_n dX6_readExpression_183 rfl ?_
    refine V.iconst (v := 1) dX6_readExpression_184 (by decide) ?_
    refine V.cV1 (ci := 6) yoX6_fails ml_X6_60 im_X6_fails se_X6_fails dX6_readExpression_185 rfl H.1 (Nat.le_of_ble_eq_true rfl) (by omega) ⟨Nat.le_refl _, Nat.le_refl _⟩ rfl (Nat.le_of_ble_eq_true rfl) (fails_V (S := S) (k := 1) (by omega) HP hs) ?_
    rintro _ h1 ⟨rfl, HP, oh1⟩
    have hfr : ∀ x : Nat, ((x < a ∨ a + 23 ≤ x) ∧ (x < t ∨ t + 19 ≤ x)) → h1 x = h x := fun x hx => (oh1 x hx).trans (hfr x hx)
    obtain ⟨s, H, hr, e0, e1, e4, e5, e6, HK, HT, hb⟩ := id HP
    obtain ⟨sk, K, kr, k1, k2, k3, k4, k5⟩ := id HK
    obtain ⟨HT1, HT2, HT3, HT4⟩ := id HT
    refine V.zret .boolean dX6_readExpression_188 rfl (rfl) ?_
    have hE : exprP b n 0 w m S = (false, failP 1 S) := rfl
    exact ⟨by rw [hE]; rfl, by rw [hE]; exact HP, hfr⟩
  | succ f ih =>
    intro i g2 w m S hf okQ HP hfr
    obtain ⟨s, H, hr, e0, e1, e4, e5, e6, HK, HT, hb⟩ := id HP
    obtain ⟨sk, K, kr, k1, k2, k3, k4, k5⟩ := id HK
    obtain ⟨HT1, HT2, HT3, HT4⟩ := id HT
    have sp1 := hs.1
    have sp2 := hs.2.1
    have sp3 := hs.2.2
    refine V.iload_n dX6_readExpression_16 rfl ?_
    refine V.sipush (v := nI 700) dX6_readExpression_17 (by decide) ?_
    refine V.icmp_gt 183 dX6_readExpression_20 (by decide) (fun z => absurd z (nI_nlt (by omega) (by omega))) (fun _ => ?_)
    refine V.aload_n dX6_readExpression_23 rfl ?_
    refine V.getf okX6 2 fl_X6_18 dX6_readExpression_24 (by decide) H.1 rfl ?_
    refine V.getf okX7 3 fl_X6_43 dX6_readExpression_27 (by decide) K.1 rfl ?_
    rw [k3]
    refine V.istore dX6_readExpression_30 (by decide) rfl ?_
    refine V.iload_n dX6_readExpression_32 rfl ?_
    refine V.if_eq 71 dX6_readExpression_33 (by decide) (fun c33 => ?_) (fun c33 => ?_)
    · skip
      have q33 : ¬ w = true := by rw [bI_f c33]; decide
      refine V.iload dX6_readExpression_71 rfl ?_
      refine V.cS1 yoX6_isBinary ml_X6_181 st_X6_isBinary dX6_readExpression_73 (Nat.le_of_ble_eq_true rfl) (by omega) ⟨Nat.le_refl _, Nat.le_refl _⟩ rfl (Nat.le_of_ble_eq_true rfl) (isBin_V (by omega)) (V.rdK ?_)
      refine V.if_eq 115 dX6_readExpression_76 (by decide) (fun c76 => ?_) (fun c76 => ?_)
      · skip
        have q76 : ¬ isBin S.1.2.1 = true := by rw [bI_f c76]; decide
        refine V.aload_n dX6_readExpression_115 rfl ?_
        refine V.getf okX6 6 fl_X6_174 dX6_readExpression_116 (by decide) H.1 rfl ?_
        refine V.if_ne 129 dX6_readExpression_119 (by decide) (fun c119 => ?_) (fun c119 => ?_)
        · skip
          have q119 : ¬ S.2.2.2.2.2 = 0 := fun z => c119 (by rw [e6, z]; rfl)
          refine V.iload dX6_readExpression_129 rfl ?_
          refine V.bipush (v := 32) dX6_readExpression_131 (by decide) ?_
          refine V.icmp_ne 164 dX6_readExpression_133 (by decide) (fun c133 => ?_) (fun c133 => ?_)
          · skip
            have q133 : ¬ S.1.2.1 = 32 := c133
            refine V.aload_n dX6_readExpression_164 rfl ?_
            refine V.iconst (v := 1) dX6_readExpression_165 (by decide) ?_
            refine V.cV1 (ci := 6) yoX6_fails ml_X6_60 im_X6_fails se_X6_fails dX6_readExpression_166 rfl H.1 (Nat.le_of_ble_eq_true rfl) (by omega) ⟨Nat.le_refl _, Nat.le_refl _⟩ rfl (Nat.le_of_ble_eq_true rfl) (fails_V (S := S) (k := 1) (by omega) HP hs) ?_
            rintro _ h1 ⟨rfl, HP, oh1⟩
            have hfr : ∀ x : Nat, ((x < a ∨ a + 23 ≤ x) ∧ (x < t ∨ t + 19 ≤ x)) → h1 x = h x := fun x hx => (oh1 x hx).trans (hfr x hx)
            obtain ⟨s, H, hr, e0, e1, e4, e5, e6, HK, HT, hb⟩ := id HP
            obtain ⟨sk, K, kr, k1, k2, k3, k4, k5⟩ := id HK
            obtain ⟨HT1, HT2, HT3, HT4⟩ := id HT
            refine V.zret .boolean dX6_readExpression_169 rfl (rfl) ?_
            have hE : exprP b n (f + 1) w m S = (false, failP 1 S) := by rw [exprP, if_neg q33, if_neg q76, if_neg q119, if_neg q133]
            exact ⟨by rw [hE]; rfl, by rw [hE]; exact HP, hfr⟩
          · skip
            have q133 : S.1.2.1 = 32 := c133
            refine V.aload_n dX6_readExpression_136 rfl ?_
            refine V.iconst (v := 1) dX6_readExpression_137 (by decide) ?_
            refine V.cV1 (ci := 6) yoX6_placeDownTo ml_X6_187 im_X6_placeDownTo se_X6_placeDownTo dX6_readExpression_138 rfl H.1 (Nat.le_of_ble_eq_true rfl) (by omega) ⟨Nat.le_refl _, Nat.le_refl _⟩ rfl (Nat.le_of_ble_eq_true rfl) (placeP_V (S := S) (lv := 1) (by omega) HP hs (by decide) okQ) ?_
            rintro _ h2 ⟨rfl, HP, oh2⟩
            have hfr : ∀ x : Nat, ((x < a ∨ a + 23 ≤ x) ∧ (x < t ∨ t + 19 ≤ x)) → h2 x = h x := fun x hx => (oh2 x hx).trans (hfr x hx)
            obtain ⟨s, H, hr, e0, e1, e4, e5, e6, HK, HT, hb⟩ := id HP
            obtain ⟨sk, K, kr, k1, k2, k3, k4, k5⟩ := id HK
            obtain ⟨HT1, HT2, HT3, HT4⟩ := id HT
            have hcl := okS_cls okQ q119
            obtain ⟨r, hr1⟩ := hcl.1
            have e5x : s.1 5 = nI (r.length + 1) := by rw [e5, hr1]; rfl
            have e4x : isW (s.2.1 4) (31 :: r) := by rw [← hr1]; exact e4
            have ho8 := okQ.2.2.2.2.2.2.2.2
            refine V.aload_n dX6_readExpression_141 rfl ?_
            refine V.dup dX6_readExpression_142 rfl ?_
            refine V.getf okX6 5 fl_X6_171 dX6_readExpression_143 (by decide) H.1 rfl ?_
            refine V.iconst (v := nI 1) dX6_readExpression_146 (by decide) ?_
            refine V.isub dX6_readExpression_147 ?_
            rw [e5x, pk_sub (by omega)]
            refine V.putfH okX6 5 fl_X6_171 dX6_readExpression_148 (by decide) rfl H.1 (rfl) (rfl) (Nat.le_of_ble_eq_true rfl) (fun h3 eh3 oh3 => ?_)
            have H := isR.setI C6_ok H 5 _ (fun _ _ => rfl) eh3 oh3
            have K := K.kept C7_ok (fun b hb1 hb2 => oh3 b (by have hb3 : b < _ := hb2; simp only [C7] at hb3; omega))
            have HT1 := HT1.kept C8_ok (fun b hb1 hb2 => oh3 b (by have hb3 : b < _ := hb2; simp only [C8] at hb3; omega))
            have HT2 := HT2.kept C2_ok (fun b hb1 hb2 => oh3 b (by have hb3 : b < _ := hb2; simp only [C2] at hb3; omega))
            have HT3 := HT3.kept C2_ok (fun b hb1 hb2 => oh3 b (by have hb3 : b < _ := hb2; simp only [C2] at hb3; omega))
            have HT4 := HT4.kept (fun b hb1 hb2 => oh3 b (by omega))
            have hb := (oh3 _ (by omega)).trans hb
            have hfr : ∀ x : Nat, ((x < a ∨ a + 23 ≤ x) ∧ (x < t ∨ t + 19 ≤ x)) → h3 x = h x := fun x hx => (oh3 x (by omega)).trans (hfr x hx)
            refine V.aload_n dX6_readExpression_151 rfl ?_
            refine V.dup dX6_readExpression_152 rfl ?_
            refine V.getf okX6 6 fl_X6_174 dX6_readExpression_153 (by decide) H.1 rfl ?_
            refine V.iconst (v := nI 1) dX6_readExpression_156 (by decide) ?_
            refine V.isub dX6_readExpression_157 ?_
            refine V.eqi (y := nI (S.2.2.2.2.2 - 1)) ((congrArg (fun z => z - nI 1) (show s.1 6 = nI S.2.2.2.2.2 from e6)).trans (pk_sub (by omega))) ?_
            refine V.putfH okX6 6 fl_X6_174 dX6_readExpression_158 (by decide) rfl H.1 (rfl) (rfl) (Nat.le_of_ble_eq_true rfl) (fun h4 eh4 oh4 => ?_)
            have H := isR.setI C6_ok H 6 _ (fun _ _ => rfl) eh4 oh4
            have K := K.kept C7_ok (fun b hb1 hb2 => oh4 b (by have hb3 : b < _ := hb2; simp only [C7] at hb3; omega))
            have HT1 := HT1.kept C8_ok (fun b hb1 hb2 => oh4 b (by have hb3 : b < _ := hb2; simp only [C8] at hb3; omega))
            have HT2 := HT2.kept C2_ok (fun b hb1 hb2 => oh4 b (by have hb3 : b < _ := hb2; simp only [C2] at hb3; omega))
            have HT3 := HT3.kept C2_ok (fun b hb1 hb2 => oh4 b (by have hb3 : b < _ := hb2; simp only [C2] at hb3; omega))
            have HT4 := HT4.kept (fun b hb1 hb2 => oh4 b (by omega))
            have hb := (oh4 _ (by omega)).trans hb
            have hfr : ∀ x : Nat, ((x < a ∨ a + 23 ≤ x) ∧ (x < t ∨ t + 19 ≤ x)) → h4 x = h x := fun x hx => (oh4 x (by omega)).trans (hfr x hx)
            have HP : isP _ a t tp n b (clsP (placeP 1 S)) := ⟨_, H, hr, e0, e1, by show isW _ (placeP 1 S).2.2.2.2.1.tail; rw [hr1]; exact e4x.2, by show _ = nI (placeP 1 S).2.2.2.2.1.tail.length; rw [hr1]; rfl, rfl, ⟨_, K, kr, k1, k2, k3, k4, k5⟩, ⟨HT1, HT2, HT3, HT4⟩, hb⟩
            have okS1 := hcl.2
            obtain ⟨S1, hS1⟩ : ∃ x, x = clsP (placeP 1 S) := ⟨_, rfl⟩
            rw [← hS1] at HP okS1
            obtain ⟨s, H, hr, e0, e1, e4, e5, e6, HK, HT, hb⟩ := id HP
            obtain ⟨sk, K, kr, k1, k2, k3, k4, k5⟩ := id HK
            obtain ⟨HT1, HT2, HT3, HT4⟩ := id HT
            refine V.goto 170 dX6_readExpression_161 (by decide) ?_
            refine V.aload_n dX6_readExpression_170 rfl ?_
            refine V.getf okX6 2 fl_X6_18 dX6_readExpression_171 (by decide) H.1 rfl ?_
            refine V.cV0 (ci := 7) yoX7_step ml_X6_54 im_X7_step se_X7_step dX6_readExpression_174 rfl K.1 (Nat.le_of_ble_eq_true rfl) (by omega) ⟨Nat.le_refl _, Nat.le_refl _⟩ rfl (Nat.le_of_ble_eq_true rfl) (stepP_V (S := S1) (by omega) HP hs hn hbb okS1.1) ?_
            rintro _ h25 ⟨rfl, HP, oh25⟩
            have hfr : ∀ x : Nat, ((x < a ∨ a + 23 ≤ x) ∧ (x < t ∨ t + 19 ≤ x)) → h25 x = h x := fun x hx => (oh25 x hx).trans (hfr x hx)
            obtain ⟨s, H, hr, e0, e1, e4, e5, e6, HK, HT, hb⟩ := id HP
            obtain ⟨sk, K, kr, k1, k2, k3, k4, k5⟩ := id HK
            obtain ⟨HT1, HT2, HT3, HT4⟩ := id HT
            obtain ⟨S2, hS2⟩ : ∃ x, x = stepP b n S1 := ⟨_, rfl⟩
            rw [← hS2] at HP
            have okS2 : okE n S2 := by rw [hS2]; exact okE_step okS1
            obtain ⟨s, H, hr, e0, e1, e4, e5, e6, HK, HT, hb⟩ := id HP
            obtain ⟨sk, K, kr, k1, k2, k3, k4, k5⟩ := id HK
            obtain ⟨HT1, HT2, HT3, HT4⟩ := id HT
            refine V.iinc (v := 1) dX6_readExpression_177 rfl (by decide) (by decide) rfl ?_
            refine V.goto 16 dX6_readExpression_180 (by decide) ?_
            refine V.weak [some (.ref a), some (.int (bI w)), some (.int (bI m)), some (.int (nI (i + 1))), none] (by simp [leL, sto1, sto2, k2c, nI_1, bI]) ?_
            rw [show exprP b n (f + 1) w m S = exprP b n f w m S2 from by rw [hS2]; exact (by rw [exprP, if_neg q33, if_neg q76, if_neg q119, if_pos q133, ← hS1])]
            exact ih (i + 1) h25 w m S2 (by omega) okS2 HP hfr
        · skip
          have q119 : S.2.2.2.2.2 = 0 := by
            have z : nI S.2.2.2.2.2 = nI 0 := e6.symm.trans c119
            have ho8 := okQ.2.2.2.2.2.2.2.2
            exact nI_inj0 (by omega) (by decide) z
          refine V.aload_n dX6_readExpression_122 rfl ?_
          refine V.iconst (v := 1) dX6_readExpression_123 (by decide) ?_
          refine V.cV1 (ci := 6) yoX6_placeDownTo ml_X6_187 im_X6_placeDownTo se_X6_placeDownTo dX6_readExpression_124 rfl H.1 (Nat.le_of_ble_eq_true rfl) (by omega) ⟨Nat.le_refl _, Nat.le_refl _⟩ rfl (Nat.le_of_ble_eq_true rfl) (placeP_V (S := S) (lv := 1) (by omega) HP hs (by decide) okQ) ?_
          rintro _ h5 ⟨rfl, HP, oh5⟩
          have hfr : ∀ x : Nat, ((x < a ∨ a + 23 ≤ x) ∧ (x < t ∨ t + 19 ≤ x)) → h5 x = h x := fun x hx => (oh5 x hx).trans (hfr x hx)
          obtain ⟨s, H, hr, e0, e1, e4, e5, e6, HK, HT, hb⟩ := id HP
          obtain ⟨sk, K, kr, k1, k2, k3, k4, k5⟩ := id HK
          obtain ⟨HT1, HT2, HT3, HT4⟩ := id HT
          refine V.iconst (v := 1) dX6_readExpression_127 (by decide) ?_
          refine V.zret .boolean dX6_readExpression_128 rfl (rfl) ?_
          have hE : exprP b n (f + 1) w m S = (true, placeP 1 S) := by rw [exprP, if_neg q33, if_neg q76, if_pos q119]
          exact ⟨by rw [hE]; rfl, by rw [hE]; exact HP, hfr⟩
      · skip
        have q76 : isBin S.1.2.1 = true := bI_t c76
        have h31 : ¬ S.1.2.1 = 31 := fun z => by rw [z] at q76; exact absurd q76 (by decide)
        refine V.aload_n dX6_readExpression_79 rfl ?_
        refine V.iload dX6_readExpression_80 rfl ?_
        refine V.cV1 (ci := 6) yoX6_takesBinary ml_X6_184 im_X6_takesBinary se_X6_takesBinary dX6_readExpression_82 rfl H.1 (Nat.le_of_ble_eq_true rfl) (by omega) ⟨Nat.le_refl _, Nat.le_refl _⟩ rfl (Nat.le_of_ble_eq_true rfl) (bin_V (S := S) (k := S.1.2.1) (by omega) HP hs okQ h31) ?_
        rintro _ h6 ⟨rfl, HP, oh6⟩
        have hfr : ∀ x : Nat, ((x < a ∨ a + 23 ≤ x) ∧ (x < t ∨ t + 19 ≤ x)) → h6 x = h x := fun x hx => (oh6 x hx).trans (hfr x hx)
        obtain ⟨s, H, hr, e0, e1, e4, e5, e6, HK, HT, hb⟩ := id HP
        obtain ⟨sk, K, kr, k1, k2, k3, k4, k5⟩ := id HK
        obtain ⟨HT1, HT2, HT3, HT4⟩ := id HT
        refine V.if_ne 90 dX6_readExpression_85 (by decide) (fun c85 => ?_) (fun c85 => ?_)
        · skip
          have q85 : (binP S.1.2.1 S).1 = true := bI_t c85
          have okS1 : okE n (binP S.1.2.1 S).2 := okS_binP h31 okQ q85
          obtain ⟨S1, hS1⟩ : ∃ x, x = (binP S.1.2.1 S).2 := ⟨_, rfl⟩
          have r85 : binP S.1.2.1 S = (true, S1) := by rw [hS1, ← q85]
          rw [← hS1] at HP okS1
          obtain ⟨s, H, hr, e0, e1, e4, e5, e6, HK, HT, hb⟩ := id HP
          obtain ⟨sk, K, kr, k1, k2, k3, k4, k5⟩ := id HK
          obtain ⟨HT1, HT2, HT3, HT4⟩ := id HT
          refine V.iload dX6_readExpression_90 rfl ?_
          refine V.bipush (v := 19) dX6_readExpression_92 (by decide) ?_
          refine V.icmp_eq 104 dX6_readExpression_94 (by decide) (fun c94 => ?_) (fun c94 => ?_)
          · skip
            have q94 : S.1.2.1 = 19 := c94
            refine V.iconst (v := 1) dX6_readExpression_104 (by decide) ?_
            refine V.goto 109 dX6_readExpression_105 (by decide) ?_
            refine V.eqi (y := bI (isAO S.1.2.1)) (by rw [q94]; rfl) ?_
            refine V.istore_n dX6_readExpression_109 (by decide) rfl ?_
            refine V.iconst (v := 1) dX6_readExpression_110 (by decide) ?_
            refine V.istore_n dX6_readExpression_111 (by decide) rfl ?_
            refine V.goto 170 dX6_readExpression_112 (by decide) ?_
            refine V.aload_n dX6_readExpression_170 rfl ?_
            refine V.getf okX6 2 fl_X6_18 dX6_readExpression_171 (by decide) H.1 rfl ?_
            refine V.cV0 (ci := 7) yoX7_step ml_X6_54 im_X7_step se_X7_step dX6_readExpression_174 rfl K.1 (Nat.le_of_ble_eq_true rfl) (by omega) ⟨Nat.le_refl _, Nat.le_refl _⟩ rfl (Nat.le_of_ble_eq_true rfl) (stepP_V (S := S1) (by omega) HP hs hn hbb okS1.1) ?_
            rintro _ h27 ⟨rfl, HP, oh27⟩
            have hfr : ∀ x : Nat, ((x < a ∨ a + 23 ≤ x) ∧ (x < t ∨ t + 19 ≤ x)) → h27 x = h x := fun x hx => (oh27 x hx).trans (hfr x hx)
            obtain ⟨s, H, hr, e0, e1, e4, e5, e6, HK, HT, hb⟩ := id HP
            obtain ⟨sk, K, kr, k1, k2, k3, k4, k5⟩ := id HK
            obtain ⟨HT1, HT2, HT3, HT4⟩ := id HT
            obtain ⟨S2, hS2⟩ : ∃ x, x = stepP b n S1 := ⟨_, rfl⟩
            rw [← hS2] at HP
            have okS2 : okE n S2 := by rw [hS2]; exact okE_step okS1
            obtain ⟨s, H, hr, e0, e1, e4, e5, e6, HK, HT, hb⟩ := id HP
            obtain ⟨sk, K, kr, k1, k2, k3, k4, k5⟩ := id HK
            obtain ⟨HT1, HT2, HT3, HT4⟩ := id HT
            refine V.iinc (v := 1) dX6_readExpression_177 rfl (by decide) (by decide) rfl ?_
            refine V.goto 16 dX6_readExpression_180 (by decide) ?_
            refine V.weak [some (.ref a), some (.int (bI true)), some (.int (bI (isAO S.1.2.1))), some (.int (nI (i + 1))), none] (by simp [leL, sto1, sto2, k2c, nI_1, bI]) ?_
            rw [show exprP b n (f + 1) w m S = exprP b n f true (isAO S.1.2.1) S2 from by rw [hS2]; exact (by rw [exprP, if_neg q33, if_pos q76, bindP_k r85])]
            exact ih (i + 1) h27 true (isAO S.1.2.1) S2 (by omega) okS2 HP hfr
          · skip
            have q94 : ¬ S.1.2.1 = 19 := c94
            refine V.iload dX6_readExpression_97 rfl ?_
            refine V.bipush (v := 18) dX6_readExpression_99 (by decide) ?_
            refine V.icmp_ne 108 dX6_readExpression_101 (by decide) (fun c101 => ?_) (fun c101 => ?_)
            · skip
              have q101 : ¬ S.1.2.1 = 18 := c101
              refine V.iconst (v := 0) dX6_readExpression_108 (by decide) ?_
              refine V.eqi (y := bI (isAO S.1.2.1)) (by unfold isAO; rw [decide_eq_false q94, decide_eq_false q101]; rfl) ?_
              refine V.istore_n dX6_readExpression_109 (by decide) rfl ?_
              refine V.iconst (v := 1) dX6_readExpression_110 (by decide) ?_
              refine V.istore_n dX6_readExpression_111 (by decide) rfl ?_
              refine V.goto 170 dX6_readExpression_112 (by decide) ?_
              refine V.aload_n dX6_readExpression_170 rfl ?_
              refine V.getf okX6 2 fl_X6_18 dX6_readExpression_171 (by decide) H.1 rfl ?_
              refine V.cV0 (ci := 7) yoX7_step ml_X6_54 im_X7_step se_X7_step dX6_readExpression_174 rfl K.1 (Nat.le_of_ble_eq_true rfl) (by omega) ⟨Nat.le_refl _, Nat.le_refl _⟩ rfl (Nat.le_of_ble_eq_true rfl) (stepP_V (S := S1) (by omega) HP hs hn hbb okS1.1) ?_
              rintro _ h27 ⟨rfl, HP, oh27⟩
              have hfr : ∀ x : Nat, ((x < a ∨ a + 23 ≤ x) ∧ (x < t ∨ t + 19 ≤ x)) → h27 x = h x := fun x hx => (oh27 x hx).trans (hfr x hx)
              obtain ⟨s, H, hr, e0, e1, e4, e5, e6, HK, HT, hb⟩ := id HP
              obtain ⟨sk, K, kr, k1, k2, k3, k4, k5⟩ := id HK
              obtain ⟨HT1, HT2, HT3, HT4⟩ := id HT
              obtain ⟨S2, hS2⟩ : ∃ x, x = stepP b n S1 := ⟨_, rfl⟩
              rw [← hS2] at HP
              have okS2 : okE n S2 := by rw [hS2]; exact okE_step okS1
              obtain ⟨s, H, hr, e0, e1, e4, e5, e6, HK, HT, hb⟩ := id HP
              obtain ⟨sk, K, kr, k1, k2, k3, k4, k5⟩ := id HK
              obtain ⟨HT1, HT2, HT3, HT4⟩ := id HT
              refine V.iinc (v := 1) dX6_readExpression_177 rfl (by decide) (by decide) rfl ?_
              refine V.goto 16 dX6_readExpression_180 (by decide) ?_
              refine V.weak [some (.ref a), some (.int (bI true)), some (.int (bI (isAO S.1.2.1))), some (.int (nI (i + 1))), none] (by simp [leL, sto1, sto2, k2c, nI_1, bI]) ?_
              rw [show exprP b n (f + 1) w m S = exprP b n f true (isAO S.1.2.1) S2 from by rw [hS2]; exact (by rw [exprP, if_neg q33, if_pos q76, bindP_k r85])]
              exact ih (i + 1) h27 true (isAO S.1.2.1) S2 (by omega) okS2 HP hfr
            · skip
              have q101 : S.1.2.1 = 18 := c101
              refine V.iconst (v := 1) dX6_readExpression_104 (by decide) ?_
              refine V.goto 109 dX6_readExpression_105 (by decide) ?_
              refine V.eqi (y := bI (isAO S.1.2.1)) (by rw [q101]; rfl) ?_
              refine V.istore_n dX6_readExpression_109 (by decide) rfl ?_
              refine V.iconst (v := 1) dX6_readExpression_110 (by decide) ?_
              refine V.istore_n dX6_readExpression_111 (by decide) rfl ?_
              refine V.goto 170 dX6_readExpression_112 (by decide) ?_
              refine V.aload_n dX6_readExpression_170 rfl ?_
              refine V.getf okX6 2 fl_X6_18 dX6_readExpression_171 (by decide) H.1 rfl ?_
              refine V.cV0 (ci := 7) yoX7_step ml_X6_54 im_X7_step se_X7_step dX6_readExpression_174 rfl K.1 (Nat.le_of_ble_eq_true rfl) (by omega) ⟨Nat.le_refl _, Nat.le_refl _⟩ rfl (Nat.le_of_ble_eq_true rfl) (stepP_V (S := S1) (by omega) HP hs hn hbb okS1.1) ?_
              rintro _ h27 ⟨rfl, HP, oh27⟩
              have hfr : ∀ x : Nat, ((x < a ∨ a + 23 ≤ x) ∧ (x < t ∨ t + 19 ≤ x)) → h27 x = h x := fun x hx => (oh27 x hx).trans (hfr x hx)
              obtain ⟨s, H, hr, e0, e1, e4, e5, e6, HK, HT, hb⟩ := id HP
              obtain ⟨sk, K, kr, k1, k2, k3, k4, k5⟩ := id HK
              obtain ⟨HT1, HT2, HT3, HT4⟩ := id HT
              obtain ⟨S2, hS2⟩ : ∃ x, x = stepP b n S1 := ⟨_, rfl⟩
              rw [← hS2] at HP
              have okS2 : okE n S2 := by rw [hS2]; exact okE_step okS1
              obtain ⟨s, H, hr, e0, e1, e4, e5, e6, HK, HT, hb⟩ := id HP
              obtain ⟨sk, K, kr, k1, k2, k3, k4, k5⟩ := id HK
              obtain ⟨HT1, HT2, HT3, HT4⟩ := id HT
              refine V.iinc (v := 1) dX6_readExpression_177 rfl (by decide) (by decide) rfl ?_
              refine V.goto 16 dX6_readExpression_180 (by decide) ?_
              refine V.weak [some (.ref a), some (.int (bI true)), some (.int (bI (isAO S.1.2.1))), some (.int (nI (i + 1))), none] (by simp [leL, sto1, sto2, k2c, nI_1, bI]) ?_
              rw [show exprP b n (f + 1) w m S = exprP b n f true (isAO S.1.2.1) S2 from by rw [hS2]; exact (by rw [exprP, if_neg q33, if_pos q76, bindP_k r85])]
              exact ih (i + 1) h27 true (isAO S.1.2.1) S2 (by omega) okS2 HP hfr
        · skip
          have q85 := bI_f c85
          refine V.iconst (v := 0) dX6_readExpression_88 (by decide) ?_
          refine V.zret .boolean dX6_readExpression_89 rfl (rfl) ?_
          have hE : exprP b n (f + 1) w m S = binP S.1.2.1 S := by rw [exprP, if_neg q33, if_pos q76, bindP_f q85]
          exact ⟨by rw [hE, q85]; rfl, by rw [hE]; exact HP, hfr⟩
    · skip
      have q33 : w = true := bI_t c33
      refine V.aload_n dX6_readExpression_36 rfl ?_
      refine V.iload_n dX6_readExpression_37 rfl ?_
      refine V.cV1 (ci := 6) yoX6_takesPart ml_X6_177 im_X6_takesPart se_X6_takesPart dX6_readExpression_38 rfl H.1 (Nat.le_of_ble_eq_true rfl) (by omega) ⟨Nat.le_refl _, Nat.le_refl _⟩ rfl (Nat.le_of_ble_eq_true rfl) (part_V (S := S) (m := m) (by omega) HP hs okQ) ?_
      rintro _ h7 ⟨rfl, HP, oh7⟩
      have hfr : ∀ x : Nat, ((x < a ∨ a + 23 ≤ x) ∧ (x < t ∨ t + 19 ≤ x)) → h7 x = h x := fun x hx => (oh7 x hx).trans (hfr x hx)
      obtain ⟨s, H, hr, e0, e1, e4, e5, e6, HK, HT, hb⟩ := id HP
      obtain ⟨sk, K, kr, k1, k2, k3, k4, k5⟩ := id HK
      obtain ⟨HT1, HT2, HT3, HT4⟩ := id HT
      refine V.if_ne 46 dX6_readExpression_41 (by decide) (fun c41 => ?_) (fun c41 => ?_)
      · skip
        have q41 : (partP m S).1 = true := bI_t c41
        have okS1 : okE n (partP m S).2 := okS_partP okQ q41
        obtain ⟨S1, hS1⟩ : ∃ x, x = (partP m S).2 := ⟨_, rfl⟩
        have r41 : partP m S = (true, S1) := by rw [hS1, ← q41]
        rw [← hS1] at HP okS1
        obtain ⟨s, H, hr, e0, e1, e4, e5, e6, HK, HT, hb⟩ := id HP
        obtain ⟨sk, K, kr, k1, k2, k3, k4, k5⟩ := id HK
        obtain ⟨HT1, HT2, HT3, HT4⟩ := id HT
        refine V.iload dX6_readExpression_46 rfl ?_
        refine V.bipush (v := 20) dX6_readExpression_48 (by decide) ?_
        refine V.icmp_eq 60 dX6_readExpression_50 (by decide) (fun c50 => ?_) (fun c50 => ?_)
        · skip
          have q50 : S.1.2.1 = 20 := c50
          refine V.iconst (v := 1) dX6_readExpression_60 (by decide) ?_
          refine V.goto 65 dX6_readExpression_61 (by decide) ?_
          refine V.eqi (y := bI (isNO S.1.2.1)) (by rw [q50]; rfl) ?_
          refine V.istore_n dX6_readExpression_65 (by decide) rfl ?_
          refine V.iload_n dX6_readExpression_66 rfl ?_
          refine V.istore_n dX6_readExpression_67 (by decide) rfl ?_
          refine V.goto 170 dX6_readExpression_68 (by decide) ?_
          refine V.aload_n dX6_readExpression_170 rfl ?_
          refine V.getf okX6 2 fl_X6_18 dX6_readExpression_171 (by decide) H.1 rfl ?_
          refine V.cV0 (ci := 7) yoX7_step ml_X6_54 im_X7_step se_X7_step dX6_readExpression_174 rfl K.1 (Nat.le_of_ble_eq_true rfl) (by omega) ⟨Nat.le_refl _, Nat.le_refl _⟩ rfl (Nat.le_of_ble_eq_true rfl) (stepP_V (S := S1) (by omega) HP hs hn hbb okS1.1) ?_
          rintro _ h28 ⟨rfl, HP, oh28⟩
          have hfr : ∀ x : Nat, ((x < a ∨ a + 23 ≤ x) ∧ (x < t ∨ t + 19 ≤ x)) → h28 x = h x := fun x hx => (oh28 x hx).trans (hfr x hx)
          obtain ⟨s, H, hr, e0, e1, e4, e5, e6, HK, HT, hb⟩ := id HP
          obtain ⟨sk, K, kr, k1, k2, k3, k4, k5⟩ := id HK
          obtain ⟨HT1, HT2, HT3, HT4⟩ := id HT
          obtain ⟨S2, hS2⟩ : ∃ x, x = stepP b n S1 := ⟨_, rfl⟩
          rw [← hS2] at HP
          have okS2 : okE n S2 := by rw [hS2]; exact okE_step okS1
          obtain ⟨s, H, hr, e0, e1, e4, e5, e6, HK, HT, hb⟩ := id HP
          obtain ⟨sk, K, kr, k1, k2, k3, k4, k5⟩ := id HK
          obtain ⟨HT1, HT2, HT3, HT4⟩ := id HT
          refine V.iinc (v := 1) dX6_readExpression_177 rfl (by decide) (by decide) rfl ?_
          refine V.goto 16 dX6_readExpression_180 (by decide) ?_
          refine V.weak [some (.ref a), some (.int (bI (isNO S.1.2.1))), some (.int (bI (isNO S.1.2.1))), some (.int (nI (i + 1))), none] (by simp [leL, sto1, sto2, k2c, nI_1, bI]) ?_
          rw [show exprP b n (f + 1) w m S = exprP b n f (isNO S.1.2.1) (isNO S.1.2.1) S2 from by rw [hS2]; exact (by rw [exprP, if_pos q33, bindP_k r41])]
          exact ih (i + 1) h28 (isNO S.1.2.1) (isNO S.1.2.1) S2 (by omega) okS2 HP hfr
        · skip
          have q50 : ¬ S.1.2.1 = 20 := c50
          refine V.iload dX6_readExpression_53 rfl ?_
          refine V.bipush (v := 31) dX6_readExpression_55 (by decide) ?_
          refine V.icmp_ne 64 dX6_readExpression_57 (by decide) (fun c57 => ?_) (fun c57 => ?_)
          · skip
            have q57 : ¬ S.1.2.1 = 31 := c57
            refine V.iconst (v := 0) dX6_readExpression_64 (by decide) ?_
            refine V.eqi (y := bI (isNO S.1.2.1)) (by unfold isNO; rw [decide_eq_false q50, decide_eq_false q57]; rfl) ?_
            refine V.istore_n dX6_readExpression_65 (by decide) rfl ?_
            refine V.iload_n dX6_readExpression_66 rfl ?_
            refine V.istore_n dX6_readExpression_67 (by decide) rfl ?_
            refine V.goto 170 dX6_readExpression_68 (by decide) ?_
            refine V.aload_n dX6_readExpression_170 rfl ?_
            refine V.getf okX6 2 fl_X6_18 dX6_readExpression_171 (by decide) H.1 rfl ?_
            refine V.cV0 (ci := 7) yoX7_step ml_X6_54 im_X7_step se_X7_step dX6_readExpression_174 rfl K.1 (Nat.le_of_ble_eq_true rfl) (by omega) ⟨Nat.le_refl _, Nat.le_refl _⟩ rfl (Nat.le_of_ble_eq_true rfl) (stepP_V (S := S1) (by omega) HP hs hn hbb okS1.1) ?_
            rintro _ h28 ⟨rfl, HP, oh28⟩
            have hfr : ∀ x : Nat, ((x < a ∨ a + 23 ≤ x) ∧ (x < t ∨ t + 19 ≤ x)) → h28 x = h x := fun x hx => (oh28 x hx).trans (hfr x hx)
            obtain ⟨s, H, hr, e0, e1, e4, e5, e6, HK, HT, hb⟩ := id HP
            obtain ⟨sk, K, kr, k1, k2, k3, k4, k5⟩ := id HK
            obtain ⟨HT1, HT2, HT3, HT4⟩ := id HT
            obtain ⟨S2, hS2⟩ : ∃ x, x = stepP b n S1 := ⟨_, rfl⟩
            rw [← hS2] at HP
            have okS2 : okE n S2 := by rw [hS2]; exact okE_step okS1
            obtain ⟨s, H, hr, e0, e1, e4, e5, e6, HK, HT, hb⟩ := id HP
            obtain ⟨sk, K, kr, k1, k2, k3, k4, k5⟩ := id HK
            obtain ⟨HT1, HT2, HT3, HT4⟩ := id HT
            refine V.iinc (v := 1) dX6_readExpression_177 rfl (by decide) (by decide) rfl ?_
            refine V.goto 16 dX6_readExpression_180 (by decide) ?_
            refine V.weak [some (.ref a), some (.int (bI (isNO S.1.2.1))), some (.int (bI (isNO S.1.2.1))), some (.int (nI (i + 1))), none] (by simp [leL, sto1, sto2, k2c, nI_1, bI]) ?_
            rw [show exprP b n (f + 1) w m S = exprP b n f (isNO S.1.2.1) (isNO S.1.2.1) S2 from by rw [hS2]; exact (by rw [exprP, if_pos q33, bindP_k r41])]
            exact ih (i + 1) h28 (isNO S.1.2.1) (isNO S.1.2.1) S2 (by omega) okS2 HP hfr
          · skip
            have q57 : S.1.2.1 = 31 := c57
            refine V.iconst (v := 1) dX6_readExpression_60 (by decide) ?_
            refine V.goto 65 dX6_readExpression_61 (by decide) ?_
            refine V.eqi (y := bI (isNO S.1.2.1)) (by rw [q57]; rfl) ?_
            refine V.istore_n dX6_readExpression_65 (by decide) rfl ?_
            refine V.iload_n dX6_readExpression_66 rfl ?_
            refine V.istore_n dX6_readExpression_67 (by decide) rfl ?_
            refine V.goto 170 dX6_readExpression_68 (by decide) ?_
            refine V.aload_n dX6_readExpression_170 rfl ?_
            refine V.getf okX6 2 fl_X6_18 dX6_readExpression_171 (by decide) H.1 rfl ?_
            refine V.cV0 (ci := 7) yoX7_step ml_X6_54 im_X7_step se_X7_step dX6_readExpression_174 rfl K.1 (Nat.le_of_ble_eq_true rfl) (by omega) ⟨Nat.le_refl _, Nat.le_refl _⟩ rfl (Nat.le_of_ble_eq_true rfl) (stepP_V (S := S1) (by omega) HP hs hn hbb okS1.1) ?_
            rintro _ h28 ⟨rfl, HP, oh28⟩
            have hfr : ∀ x : Nat, ((x < a ∨ a + 23 ≤ x) ∧ (x < t ∨ t + 19 ≤ x)) → h28 x = h x := fun x hx => (oh28 x hx).trans (hfr x hx)
            obtain ⟨s, H, hr, e0, e1, e4, e5, e6, HK, HT, hb⟩ := id HP
            obtain ⟨sk, K, kr, k1, k2, k3, k4, k5⟩ := id HK
            obtain ⟨HT1, HT2, HT3, HT4⟩ := id HT
            obtain ⟨S2, hS2⟩ : ∃ x, x = stepP b n S1 := ⟨_, rfl⟩
            rw [← hS2] at HP
            have okS2 : okE n S2 := by rw [hS2]; exact okE_step okS1
            obtain ⟨s, H, hr, e0, e1, e4, e5, e6, HK, HT, hb⟩ := id HP
            obtain ⟨sk, K, kr, k1, k2, k3, k4, k5⟩ := id HK
            obtain ⟨HT1, HT2, HT3, HT4⟩ := id HT
            refine V.iinc (v := 1) dX6_readExpression_177 rfl (by decide) (by decide) rfl ?_
            refine V.goto 16 dX6_readExpression_180 (by decide) ?_
            refine V.weak [some (.ref a), some (.int (bI (isNO S.1.2.1))), some (.int (bI (isNO S.1.2.1))), some (.int (nI (i + 1))), none] (by simp [leL, sto1, sto2, k2c, nI_1, bI]) ?_
            rw [show exprP b n (f + 1) w m S = exprP b n f (isNO S.1.2.1) (isNO S.1.2.1) S2 from by rw [hS2]; exact (by rw [exprP, if_pos q33, bindP_k r41])]
            exact ih (i + 1) h28 (isNO S.1.2.1) (isNO S.1.2.1) S2 (by omega) okS2 HP hfr
      · skip
        have q41 := bI_f c41
        refine V.iconst (v := 0) dX6_readExpression_44 (by decide) ?_
        refine V.zret .boolean dX6_readExpression_45 rfl (rfl) ?_
        have hE : exprP b n (f + 1) w m S = partP m S := by rw [exprP, if_pos q33, bindP_f q41]
        exact ⟨by rw [hE, q41]; rfl, by rw [hE]; exact HP, hfr⟩
