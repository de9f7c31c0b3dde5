/-! TextReading: the reading -/
def readP (b : Nat → Int32) (n : Nat) : Nat → Nat → PS → Int32 × PS
  | 0, i, S => (nI i, S)
  | f + 1, i, S => if S.1.2.1 = -1 then (nI i, S) else if (lineP b n S).1 = true then (if (nextP 30 (lineP b n S).2).1 = true then readP b n f (i + 1) (stepP b n (lineP b n S).2) else (-1, (nextP 30 (lineP b n S).2).2)) else (-1, (lineP b n S).2)
set_option maxRecDepth 100000 in
set_option maxHeartbeats 2000000 in
theorem readLoop_V {d n0 : Nat} {κ : Kd} (hd : 9 ≤ d) {h : Hp} {a t tp n : Nat} {b : Nat → Int32} (hs : sepP a t tp) (hn : n ≤ 700) (hbb : ∀ k, k < n → ¬ b k = -1) : ∀ (f i : Nat) (g2 : Hp) (S : PS), i + f = n + 1 → okS n S → isP g2 a t tp n b S → (∀ x : Nat, ((x < a ∨ a + 23 ≤ x) ∧ (x < t ∨ t + 19 ≤ x)) → g2 x = h x) → V MX6_read (d, 0, 0, n0, κ) 0 0 g2 34 [some (.ref a), some (.ref tp), some (.int (nI n)), some (.ref t), some (.int (nI i))] [] (fun v h' => v = some (.int (readP b n f i S).1) ∧ isP h' a t tp n b (readP b n f i S).2 ∧ ∀ x : Nat, ((x < a ∨ a + 23 ≤ x) ∧ (x < t ∨ t + 19 ≤ x)) → h' x = h x) := by
  intro f
  induction f with
  | zero =>
    intro i g2 S hf okQ HP hfr
    obtain ⟨s, H, hr, e0, e1, e4, e5, e6, HK, HT, hb⟩ := id HP
    obtain ⟨sk, K, kr, k1, k2, k3, k4, k5⟩ := id HK
    obtain ⟨HT1, HT2, HT3, HT4⟩ := id HT
    have sp1 := hs.1
    have sp2 := hs.2.1
    have sp3 := hs.2.2
    refine V.iload dX6_read_34 rfl ?_
    refine V.iload_n dX6_read_36 rfl ?_
    refine V.icmp_gt 82 dX6_read_37 (by decide) (fun _ => ?_) (fun z => absurd (nI_lt (by omega) (by omega)) z)
    refine V.iload dX6_read_82 rfl ?_
    refine V.iret dX6_read_84 rfl ?_
    have hE : readP b n 0 i S = (nI i, S) := rfl
    exact ⟨by rw [hE], by rw [hE]; exact HP, hfr⟩
  | succ f ih =>
    intro i g2 S hf okQ HP hfr
    obtain ⟨s, H, hr, e0, e1, e4, e5, e6, HK, HT, hb⟩ := id HP
    obtain ⟨sk, K, kr, k1, k2, k3, k4, k5⟩ := id HK
    obtain ⟨HT1, HT2, HT3, HT4⟩ := id HT
    have sp1 := hs.1
    have sp2 := hs.2.1
    have sp3 := hs.2.2
    refine V.iload dX6_read_34 rfl ?_
    refine V.iload_n dX6_read_36 rfl ?_
    refine V.icmp_gt 82 dX6_read_37 (by decide) (fun z => absurd z (nI_nlt (by omega) (by omega))) (fun _ => ?_)
    refine V.aload_n dX6_read_40 rfl ?_
    refine V.getf okX6 2 fl_X6_18 dX6_read_41 (by decide) H.1 rfl ?_
    refine V.getf okX7 3 fl_X6_43 dX6_read_44 (by decide) K.1 rfl ?_
    rw [k3]
    refine V.iconst (v := (-1)) dX6_read_47 (by decide) ?_
    refine V.icmp_eq 82 dX6_read_48 (by decide) (fun c48 => ?_) (fun c48 => ?_)
    · skip
      have q48 : S.1.2.1 = -1 := c48
      refine V.iload dX6_read_82 rfl ?_
      refine V.iret dX6_read_84 rfl ?_
      have hE : readP b n (f + 1) i S = (nI i, S) := by rw [readP, if_pos q48]
      exact ⟨by rw [hE], by rw [hE]; exact HP, hfr⟩
    · skip
      have q48 : ¬ S.1.2.1 = -1 := c48
      refine V.aload_n dX6_read_51 rfl ?_
      refine V.cV0 (ci := 6) yoX6_readLine ml_X6_46 im_X6_readLine se_X6_readLine dX6_read_52 rfl H.1 (Nat.le_of_ble_eq_true rfl) (by omega) ⟨Nat.le_refl _, Nat.le_refl _⟩ rfl (Nat.le_of_ble_eq_true rfl) (line_V (S := S) (by omega) HP hs hn hbb okQ) ?_
      rintro _ h1 ⟨rfl, HP, oh1⟩
      have hfr : ∀ x : Nat, ((x < a ∨ a + 23 ≤ x) ∧ (x < t ∨ t + 19 ≤ x)) → h1 x = h x := fun x hx => (oh1 x hx).trans (hfr x hx)
      obtain ⟨s, H, hr, e0, e1, e4, e5, e6, HK, HT, hb⟩ := id HP
      obtain ⟨sk, K, kr, k1, k2, k3, k4, k5⟩ := id HK
      obtain ⟨HT1, HT2, HT3, HT4⟩ := id HT
      refine V.if_eq 67 dX6_read_55 (by decide) (fun c55 => ?_) (fun c55 => ?_)
      · skip
        have q55 : ¬ (lineP b n S).1 = true := by rw [bI_f c55]; decide
        have hE : readP b n (f + 1) i S = (-1, (lineP b n S).2) := by rw [readP, if_neg q48, if_neg q55]
        refine V.iconst (v := (-1)) dX6_read_67 (by decide) ?_
        refine V.iret dX6_read_68 rfl ?_
        exact ⟨by rw [hE], by rw [hE]; exact HP, hfr⟩
      · skip
        have q55 : (lineP b n S).1 = true := bI_t c55
        have okS1 : okS n (lineP b n S).2 := okS_line okQ q55
        obtain ⟨S1, hS1⟩ : ∃ x, x = (lineP b n S).2 := ⟨_, rfl⟩
        rw [← hS1] at HP okS1
        obtain ⟨s, H, hr, e0, e1, e4, e5, e6, HK, HT, hb⟩ := id HP
        obtain ⟨sk, K, kr, k1, k2, k3, k4, k5⟩ := id HK
        obtain ⟨HT1, HT2, HT3, HT4⟩ := id HT
        refine V.aload_n dX6_read_58 rfl ?_
        refine V.bipush (v := 30) dX6_read_59 (by decide) ?_
        refine V.cV1 (ci := 6) yoX6_isNext ml_X6_50 im_X6_isNext se_X6_isNext dX6_read_61 rfl H.1 (Nat.le_of_ble_eq_true rfl) (by omega) ⟨Nat.le_refl _, Nat.le_refl _⟩ rfl (Nat.le_of_ble_eq_true rfl) (isNext_V (S := S1) (k := 30) (by omega) HP hs) ?_
        rintro _ h2 ⟨rfl, HP, oh2⟩
        have hfr : ∀ x : Nat, ((x < a ∨ a + 23 ≤ x) ∧ (x < t ∨ t + 19 ≤ x)) → h2 x = h x := fun x hx => (oh2 x hx).trans (hfr x hx)
        obtain ⟨s, H, hr, e0, e1, e4, e5, e6, HK, HT, hb⟩ := id HP
        obtain ⟨sk, K, kr, k1, k2, k3, k4, k5⟩ := id HK
        obtain ⟨HT1, HT2, HT3, HT4⟩ := id HT
        refine V.if_ne 69 dX6_read_64 (by decide) (fun c64 => ?_) (fun c64 => ?_)
        · skip
          have q64 := bI_t c64
          rw [(nextP_t q64).1] at HP
          obtain ⟨s, H, hr, e0, e1, e4, e5, e6, HK, HT, hb⟩ := id HP
          obtain ⟨sk, K, kr, k1, k2, k3, k4, k5⟩ := id HK
          obtain ⟨HT1, HT2, HT3, HT4⟩ := id HT
          refine V.aload_n dX6_read_69 rfl ?_
          refine V.getf okX6 2 fl_X6_18 dX6_read_70 (by decide) H.1 rfl ?_
          refine V.cV0 (ci := 7) yoX7_step ml_X6_54 im_X7_step se_X7_step dX6_read_73 rfl K.1 (Nat.le_of_ble_eq_true rfl) (by omega) ⟨Nat.le_refl _, Nat.le_refl _⟩ rfl (Nat.le_of_ble_eq_true rfl) (stepP_V (S := S1) (by omega) HP hs hn hbb okS1.1) ?_
          rintro _ h3 ⟨rfl, HP, oh3⟩
          have hfr : ∀ x : Nat, ((x < a ∨ a + 23 ≤ x) ∧ (x < t ∨ t + 19 ≤ x)) → h3 x = h x := fun x hx => (oh3 x hx).trans (hfr x hx)
          obtain ⟨s, H, hr, e0, e1, e4, e5, e6, HK, HT, hb⟩ := id HP
          obtain ⟨sk, K, kr, k1, k2, k3, k4, k5⟩ := id HK
          obtain ⟨HT1, HT2, HT3, HT4⟩ := id HT
          obtain ⟨S2, hS2⟩ : ∃ x, x = stepP b n S1 := ⟨_, rfl⟩
          rw [← hS2] at HP
          have okS2 : okS n S2 := by rw [hS2]; exact okS_step okS1
          obtain ⟨s, H, hr, e0, e1, e4, e5, e6, HK, HT, hb⟩ := id HP
          obtain ⟨sk, K, kr, k1, k2, k3, k4, k5⟩ := id HK
          obtain ⟨HT1, HT2, HT3, HT4⟩ := id HT
          refine V.iinc (v := 1) dX6_read_76 rfl (by decide) (by decide) rfl ?_
          refine V.goto 34 dX6_read_79 (by decide) ?_
          refine V.weak [some (.ref a), some (.ref tp), some (.int (nI n)), some (.ref t), some (.int (nI (i + 1)))] (by simp [leL, sto1, sto2, k2c, nI_1]) ?_
          rw [show readP b n (f + 1) i S = readP b n f (i + 1) S2 from by rw [readP, if_neg q48, if_pos q55, ← hS1, if_pos q64, hS2]]
          exact ih (i + 1) h3 S2 (by omega) okS2 HP hfr
        · skip
          have q64 : ¬ (nextP 30 S1).1 = true := by rw [bI_f c64]; decide
          have hE : readP b n (f + 1) i S = (-1, (nextP 30 S1).2) := by rw [readP, if_neg q48, if_pos q55, ← hS1, if_neg q64]
          refine V.iconst (v := (-1)) dX6_read_67 (by decide) ?_
          refine V.iret dX6_read_68 rfl ?_
          exact ⟨by rw [hE], by rw [hE]; exact HP, hfr⟩
