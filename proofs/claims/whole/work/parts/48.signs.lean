/-! TextReading: signs -/
theorem nil_of {l : List Int32} (h : nI l.length ≤ 0) (hl : l.length ≤ 72) : l = [] := by
  cases l with
  | nil => rfl
  | cons x l => exact absurd h (nI_nle0 (k := (x :: l).length) (Nat.succ_pos _) (by omega))
theorem cons_of {l : List Int32} (h : ¬ nI l.length ≤ 0) : ∃ x r, l = x :: r := by
  cases l with
  | nil => exact absurd (show nI 0 ≤ 0 by decide) h
  | cons x l => exact ⟨x, l, rfl⟩
set_option maxRecDepth 100000 in
set_option maxHeartbeats 2000000 in
theorem bin_V {d n0 : Nat} {κ : Kd} (hd : 5 ≤ d) {h : Hp} {a t tp n : Nat} {b : Nat → Int32} {S : PS} (HP : isP h a t tp n b S) (hs : sepP a t tp) (okQ : okE n S) {k : Int32} (hk : ¬ k = 31) : V MX6_takesBinary (d, 0, 0, n0, κ) 0 0 h 0 [some (.ref a), some (.int (k)), none, none] [] (fun v h' => v = some (.int (bI (binP k S).1)) ∧ isP h' a t tp n b (binP k S).2 ∧ ∀ x : Nat, ((x < a ∨ a + 23 ≤ x) ∧ (x < t ∨ t + 19 ≤ x)) → h' x = h x) := by
  obtain ⟨s, H, hr, e0, e1, e4, e5, e6, HK, HT, hb⟩ := id HP
  obtain ⟨sk, K, kr, k1, k2, k3, k4, k5⟩ := id HK
  obtain ⟨HT1, HT2, HT3, HT4⟩ := id HT
  have sp1 := hs.1
  have sp2 := hs.2.1
  have sp3 := hs.2.2
  have hfr : ∀ x : Nat, ((x < a ∨ a + 23 ≤ x) ∧ (x < t ∨ t + 19 ≤ x)) → h x = h x := fun _ _ => rfl
  refine V.iload_n dX6_takesBinary_0 rfl ?_
  refine V.cS1 yoX6_levelOf ml_X6_199 st_X6_levelOf dX6_takesBinary_1 (Nat.le_of_ble_eq_true rfl) (by omega) ⟨Nat.le_refl _, Nat.le_refl _⟩ rfl (Nat.le_of_ble_eq_true rfl) (lvl_V (by omega)) (V.rdK ?_)
  refine V.istore_n dX6_takesBinary_4 (by decide) rfl ?_
  refine V.aload_n dX6_takesBinary_5 rfl ?_
  refine V.iload_n dX6_takesBinary_6 rfl ?_
  refine V.iconst (v := 1) dX6_takesBinary_7 (by decide) ?_
  refine V.iadd dX6_takesBinary_8 ?_
  refine V.cV1 (ci := 6) yoX6_placeDownTo ml_X6_187 im_X6_placeDownTo se_X6_placeDownTo dX6_takesBinary_9 rfl H.1 (Nat.le_of_ble_eq_true rfl) (by omega) ⟨Nat.le_refl _, Nat.le_refl _⟩ rfl (Nat.le_of_ble_eq_true rfl) (placeP_V (S := S) (lv := lvl k + 1) (by omega) HP hs (lvl_pos hk).2 okQ) ?_
  rintro _ h1 ⟨rfl, HP, oh1⟩
  have hfr : ∀ x : Nat, ((x < a ∨ a + 23 ≤ x) ∧ (x < t ∨ t + 19 ≤ x)) → h1 x = h x := fun x hx => (oh1 x hx).trans (hfr x hx)
  obtain ⟨s, H, hr, e0, e1, e4, e5, e6, HK, HT, hb⟩ := id HP
  obtain ⟨sk, K, kr, k1, k2, k3, k4, k5⟩ := id HK
  obtain ⟨HT1, HT2, HT3, HT4⟩ := id HT
  obtain ⟨S1, hS1⟩ : ∃ x, x = placeP (lvl k + 1) S := ⟨_, rfl⟩
  rw [← hS1] at HP
  have okS1 : okE n S1 := by rw [hS1]; exact okS_place (lvl_pos hk).2 okQ
  obtain ⟨s, H, hr, e0, e1, e4, e5, e6, HK, HT, hb⟩ := id HP
  obtain ⟨sk, K, kr, k1, k2, k3, k4, k5⟩ := id HK
  obtain ⟨HT1, HT2, HT3, HT4⟩ := id HT
  refine V.iload_n dX6_takesBinary_12 rfl ?_
  refine V.bipush (v := 35) dX6_takesBinary_13 (by decide) ?_
  refine V.cS1 yoX6_levelOf ml_X6_199 st_X6_levelOf dX6_takesBinary_15 (Nat.le_of_ble_eq_true rfl) (by omega) ⟨Nat.le_refl _, Nat.le_refl _⟩ rfl (Nat.le_of_ble_eq_true rfl) (lvl_V (by omega)) (V.rdK ?_)
  refine V.icmp_ne 25 dX6_takesBinary_18 (by decide) (fun c18 => ?_) (fun c18 => ?_)
  · skip
    have q18 : ¬ lvl k = lvl 35 := c18
    refine V.iconst (v := 0) dX6_takesBinary_25 (by decide) ?_
    refine V.istore_n dX6_takesBinary_26 (by decide) rfl ?_
    refine V.iload_n dX6_takesBinary_27 rfl ?_
    refine V.if_eq 62 dX6_takesBinary_28 (by decide) (fun _ => ?_) (fun z => absurd (rfl) z)
    rw [show binP k S = bin2 k S1 from by rw [hS1]; unfold binP; rw [if_neg q18]]
    refine V.post ?_ (bin2_V (by omega) HP hs okS1 hk)
    rintro v h3 ⟨z1, z2, z3⟩
    exact ⟨z1, z2, fun x hx => (z3 x hx).trans (hfr x hx)⟩
  · skip
    have q18 : lvl k = lvl 35 := c18
    refine V.iconst (v := 1) dX6_takesBinary_21 (by decide) ?_
    refine V.goto 26 dX6_takesBinary_22 (by decide) ?_
    refine V.istore_n dX6_takesBinary_26 (by decide) rfl ?_
    refine V.iload_n dX6_takesBinary_27 rfl ?_
    refine V.if_eq 62 dX6_takesBinary_28 (by decide) (fun z => absurd z (by decide)) (fun _ => ?_)
    refine V.aload_n dX6_takesBinary_31 rfl ?_
    refine V.getf okX6 5 fl_X6_171 dX6_takesBinary_32 (by decide) H.1 rfl ?_
    refine V.if_le 62 dX6_takesBinary_35 (by decide) (fun c35 => ?_) (fun c35 => ?_)
    · skip
      have hnil := nil_of (by rw [← e5]; exact c35) (okS_len okS1)
      rw [show binP k S = bin2 k S1 from by rw [hS1]; unfold binP; rw [if_pos q18, ← hS1, if_neg (by unfold clashB; rw [hnil]; simp)]]
      refine V.post ?_ (bin2_V (by omega) HP hs okS1 hk)
      rintro v h3 ⟨z1, z2, z3⟩
      exact ⟨z1, z2, fun x hx => (z3 x hx).trans (hfr x hx)⟩
    · skip
      obtain ⟨x, r, hx⟩ := cons_of (by rw [← e5]; exact c35)
      rw [hx] at e4
      have e5x : s.1 5 = nI (r.length + 1) := by rw [e5, hx]; rfl
      refine V.aload_n dX6_takesBinary_38 rfl ?_
      refine V.getf okX6 4 fl_X6_29 dX6_takesBinary_39 (by decide) H.1 rfl ?_
      refine V.aload_n dX6_takesBinary_42 rfl ?_
      refine V.getf okX6 5 fl_X6_171 dX6_takesBinary_43 (by decide) H.1 rfl ?_
      refine V.iconst (v := nI 1) dX6_takesBinary_46 (by decide) ?_
      refine V.isub dX6_takesBinary_47 ?_
      rw [e5x, pk_sub (by omega)]
      refine V.ialdN dX6_takesBinary_48 (C6_r4 H) (rfl) (by have := okS_len okS1; rw [hx] at this; have h9 : r.length + 1 ≤ 72 := this; omega) (by decide) ?_
      refine V.eqi (y := x) e4.1 ?_
      refine V.cS1 yoX6_levelOf ml_X6_199 st_X6_levelOf dX6_takesBinary_49 (Nat.le_of_ble_eq_true rfl) (by omega) ⟨Nat.le_refl _, Nat.le_refl _⟩ rfl (Nat.le_of_ble_eq_true rfl) (lvl_V (by omega)) (V.rdK ?_)
      refine V.iload_n dX6_takesBinary_52 rfl ?_
      refine V.icmp_ne 62 dX6_takesBinary_53 (by decide) (fun c53 => ?_) (fun c53 => ?_)
      · skip
        have q53 : ¬ lvl x = lvl k := c53
        rw [show binP k S = bin2 k S1 from by rw [hS1]; unfold binP; rw [if_pos q18, ← hS1, if_neg (by unfold clashB; rw [hx]; simp only [decide_eq_true_eq]; exact q53)]]
        refine V.post ?_ (bin2_V (by omega) HP hs okS1 hk)
        rintro v h3 ⟨z1, z2, z3⟩
        exact ⟨z1, z2, fun x hx => (z3 x hx).trans (hfr x hx)⟩
      · skip
        have q53 : lvl x = lvl k := c53
        refine V.aload_n dX6_takesBinary_56 rfl ?_
        refine V.iconst (v := 1) dX6_takesBinary_57 (by decide) ?_
        refine V.cV1 (ci := 6) yoX6_fails ml_X6_60 im_X6_fails se_X6_fails dX6_takesBinary_58 rfl H.1 (Nat.le_of_ble_eq_true rfl) (by omega) ⟨Nat.le_refl _, Nat.le_refl _⟩ rfl (Nat.le_of_ble_eq_true rfl) (fails_V (S := S1) (k := 1) (by omega) HP hs) ?_
        rintro _ h22 ⟨rfl, HP, oh22⟩
        have hfr : ∀ x : Nat, ((x < a ∨ a + 23 ≤ x) ∧ (x < t ∨ t + 19 ≤ x)) → h22 x = h x := fun x hx => (oh22 x hx).trans (hfr x hx)
        obtain ⟨s, H, hr, e0, e1, e4, e5, e6, HK, HT, hb⟩ := id HP
        obtain ⟨sk, K, kr, k1, k2, k3, k4, k5⟩ := id HK
        obtain ⟨HT1, HT2, HT3, HT4⟩ := id HT
        refine V.zret .boolean dX6_takesBinary_61 rfl (rfl) ?_
        have hE : binP k S = (false, failP 1 S1) := by rw [hS1]; unfold binP; rw [if_pos q18, ← hS1, if_pos (by unfold clashB; rw [hx]; simp only [decide_eq_true_eq]; exact q53)]
        exact ⟨by rw [hE]; rfl, by rw [hE]; exact HP, hfr⟩
