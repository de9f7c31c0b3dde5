/-! TextReading: the reading from its start -/
set_option maxRecDepth 100000 in
set_option maxHeartbeats 2000000 in
theorem read_V {d n0 : Nat} {κ : Kd} (hd : 10 ≤ d) {h : Hp} {a t tp n pl o : Nat} {l : List Int32} {b : Nat → Int32} {s sk : St} {T : Tx} (H : isR C6 h a s) (K : isR C7 h (a + 1) sk) (hpl : sk.1 4 = nI pl) (hw : isW (s.2.1 4) l ∧ s.1 5 = nI l.length ∧ s.1 6 = nI o) (HT : isT h t T) (hc : T.2.1.1 1 = 12 ∧ T.2.2.1.1 1 = 8) (hb : h tp = some (.inl (0, 700, .inl b))) (hs : sepP a t tp) (hn : n ≤ 700) (hbb : ∀ k, k < n → ¬ b k = -1) : V MX6_read (d, 0, 0, n0, κ) 0 0 h 0 [some (.ref a), some (.ref (tp)), some (.int (nI n)), some (.ref (t)), none] [] (fun v h' => v = some (.int (readP b n (n + 1) 0 (tokN b n (0, sk.1 3, pl, sk.1 5), (tForget T.1, dForget T.2.1, dForget T.2.2.1, lForget T.2.2.2), 0, -1, l, o)).1) ∧ isP h' a t tp n b (readP b n (n + 1) 0 (tokN b n (0, sk.1 3, pl, sk.1 5), (tForget T.1, dForget T.2.1, dForget T.2.2.1, lForget T.2.2.2), 0, -1, l, o)).2 ∧ ∀ x : Nat, ((x < a ∨ a + 23 ≤ x) ∧ (x < t ∨ t + 19 ≤ x)) → h' x = h x) := by
  obtain ⟨HT1, HT2, HT3, HT4⟩ := id HT
  obtain ⟨g4, H4⟩ := id HT4
  have sp1 := hs.1
  have sp2 := hs.2.1
  have sp3 := hs.2.2
  have hfr : ∀ x : Nat, ((x < a ∨ a + 23 ≤ x) ∧ (x < t ∨ t + 19 ≤ x)) → h x = h x := fun _ _ => rfl
  refine V.aload_n dX6_read_0 rfl ?_
  refine V.aload_n dX6_read_1 rfl ?_
  refine V.putfH okX6 3 fl_X6_25 dX6_read_2 (by decide) rfl H.1 (rfl) (rfl) (Nat.le_of_ble_eq_true rfl) (fun h1 eh1 oh1 => ?_)
  have H := isR.setP C6_ok H 3 t (fun _ _ => rfl) eh1 oh1
  have K := K.kept C7_ok (fun b hb1 hb2 => oh1 b (by have hb3 : b < _ := hb2; simp only [C7] at hb3; omega))
  have HT1 := HT1.kept C8_ok (fun b hb1 hb2 => oh1 b (by have hb3 : b < _ := hb2; simp only [C8] at hb3; omega))
  have HT2 := HT2.kept C2_ok (fun b hb1 hb2 => oh1 b (by have hb3 : b < _ := hb2; simp only [C2] at hb3; omega))
  have HT3 := HT3.kept C2_ok (fun b hb1 hb2 => oh1 b (by have hb3 : b < _ := hb2; simp only [C2] at hb3; omega))
  have H4 := H4.kept C4_ok (fun b hb1 hb2 => oh1 b (by have hb3 : b < _ := hb2; simp only [C4] at hb3; omega))
  have hb := (oh1 _ (by omega)).trans hb
  have hfr : ∀ x : Nat, ((x < a ∨ a + 23 ≤ x) ∧ (x < t ∨ t + 19 ≤ x)) → h1 x = h x := fun x hx => (oh1 x (by omega)).trans (hfr x hx)
  refine V.aload_n dX6_read_5 rfl ?_
  refine V.getf (v := .ref (t)) okX6 3 fl_X6_25 dX6_read_6 (by decide) H.1 (congrArg (fun z => some (Value.ref z)) (rfl)) ?_
  refine V.cV0 (ci := 8) yoX8_forget ml_X6_33 im_X8_forget se_X8_forget dX6_read_9 rfl HT1.1 (Nat.le_of_ble_eq_true rfl) (by omega) ⟨Nat.le_refl _, Nat.le_refl _⟩ rfl (Nat.le_of_ble_eq_true rfl) (tForget_V (by omega) HT1 HT2 HT3 H4) ?_
  rintro _ h2 ⟨rfl, HT1, HT2, HT3, H4, oh2⟩
  have H := C6_kept H (oh2 _ (by omega)) (oh2 _ (by omega))
  have K := K.kept C7_ok (fun b hb1 hb2 => oh2 b (by have hb3 : b < _ := hb2; simp only [C7] at hb3; omega))
  have hb := (oh2 _ (by omega)).trans hb
  have hfr : ∀ x : Nat, ((x < a ∨ a + 23 ≤ x) ∧ (x < t ∨ t + 19 ≤ x)) → h2 x = h x := fun x hx => (oh2 x (by omega)).trans (hfr x hx)
  refine V.aload_n dX6_read_12 rfl ?_
  refine V.iconst (v := 0) dX6_read_13 (by decide) ?_
  refine V.putfH okX6 0 fl_X6_36 dX6_read_14 (by decide) rfl H.1 (rfl) (rfl) (Nat.le_of_ble_eq_true rfl) (fun h3 eh3 oh3 => ?_)
  have H := isR.setI C6_ok H 0 _ (fun _ _ => rfl) eh3 oh3
  have K := K.kept C7_ok (fun b hb1 hb2 => oh3 b (by have hb3 : b < _ := hb2; simp only [C7] at hb3; omega))
  have HT1 := HT1.kept C8_ok (fun b hb1 hb2 => oh3 b (by have hb3 : b < _ := hb2; simp only [C8] at hb3; omega))
  have HT2 := HT2.kept C2_ok (fun b hb1 hb2 => oh3 b (by have hb3 : b < _ := hb2; simp only [C2] at hb3; omega))
  have HT3 := HT3.kept C2_ok (fun b hb1 hb2 => oh3 b (by have hb3 : b < _ := hb2; simp only [C2] at hb3; omega))
  have H4 := H4.kept C4_ok (fun b hb1 hb2 => oh3 b (by have hb3 : b < _ := hb2; simp only [C4] at hb3; omega))
  have hb := (oh3 _ (by omega)).trans hb
  have hfr : ∀ x : Nat, ((x < a ∨ a + 23 ≤ x) ∧ (x < t ∨ t + 19 ≤ x)) → h3 x = h x := fun x hx => (oh3 x (by omega)).trans (hfr x hx)
  refine V.aload_n dX6_read_17 rfl ?_
  refine V.iconst (v := (-1)) dX6_read_18 (by decide) ?_
  refine V.putfH okX6 1 fl_X6_9 dX6_read_19 (by decide) rfl H.1 (rfl) (rfl) (Nat.le_of_ble_eq_true rfl) (fun h4 eh4 oh4 => ?_)
  have H := isR.setI C6_ok H 1 _ (fun _ _ => rfl) eh4 oh4
  have K := K.kept C7_ok (fun b hb1 hb2 => oh4 b (by have hb3 : b < _ := hb2; simp only [C7] at hb3; omega))
  have HT1 := HT1.kept C8_ok (fun b hb1 hb2 => oh4 b (by have hb3 : b < _ := hb2; simp only [C8] at hb3; omega))
  have HT2 := HT2.kept C2_ok (fun b hb1 hb2 => oh4 b (by have hb3 : b < _ := hb2; simp only [C2] at hb3; omega))
  have HT3 := HT3.kept C2_ok (fun b hb1 hb2 => oh4 b (by have hb3 : b < _ := hb2; simp only [C2] at hb3; omega))
  have H4 := H4.kept C4_ok (fun b hb1 hb2 => oh4 b (by have hb3 : b < _ := hb2; simp only [C4] at hb3; omega))
  have hb := (oh4 _ (by omega)).trans hb
  have hfr : ∀ x : Nat, ((x < a ∨ a + 23 ≤ x) ∧ (x < t ∨ t + 19 ≤ x)) → h4 x = h x := fun x hx => (oh4 x (by omega)).trans (hfr x hx)
  refine V.aload_n dX6_read_22 rfl ?_
  refine V.getf okX6 2 fl_X6_18 dX6_read_23 (by decide) H.1 rfl ?_
  refine V.aload_n dX6_read_26 rfl ?_
  refine V.iload_n dX6_read_27 rfl ?_
  refine V.cV2 (ci := 7) yoX7_begin ml_X6_39 im_X7_begin se_X7_begin dX6_read_28 rfl K.1 (Nat.le_of_ble_eq_true rfl) (by omega) ⟨Nat.le_refl _, Nat.le_refl _⟩ rfl (Nat.le_of_ble_eq_true rfl) (begin_K (pl := pl) (by omega) K hpl hb hn hbb (by omega)) ?_
  rintro _ h5 ⟨rfl, HK, ooh5⟩
  have oh5 : ∀ x : Nat, ¬ x = a + 1 → h5 x = h4 x := fun x hx => ooh5 x (by omega)
  obtain ⟨sk2, K, kr, k1, k2, k3, k4, k5⟩ := id HK
  have H := C6_kept H (oh5 _ (by omega)) (oh5 _ (by omega))
  have HT1 := HT1.kept C8_ok (fun b hb1 hb2 => oh5 b (by have hb3 : b < _ := hb2; simp only [C8] at hb3; omega))
  have HT2 := HT2.kept C2_ok (fun b hb1 hb2 => oh5 b (by have hb3 : b < _ := hb2; simp only [C2] at hb3; omega))
  have HT3 := HT3.kept C2_ok (fun b hb1 hb2 => oh5 b (by have hb3 : b < _ := hb2; simp only [C2] at hb3; omega))
  have H4 := H4.kept C4_ok (fun b hb1 hb2 => oh5 b (by have hb3 : b < _ := hb2; simp only [C4] at hb3; omega))
  have hb := (oh5 _ (by omega)).trans hb
  have hfr : ∀ x : Nat, ((x < a ∨ a + 23 ≤ x) ∧ (x < t ∨ t + 19 ≤ x)) → h5 x = h x := fun x hx => (oh5 x (by omega)).trans (hfr x hx)
  refine V.iconst (v := nI 0) dX6_read_31 (by decide) ?_
  refine V.istore dX6_read_32 (by decide) rfl ?_
  have HP : isP h5 a t tp n b (tokN b n (0, sk.1 3, pl, sk.1 5), (tForget T.1, dForget T.2.1, dForget T.2.2.1, lForget T.2.2.2), 0, -1, l, o) := ⟨_, H, rfl, rfl, rfl, hw.1, hw.2.1, hw.2.2, HK, ⟨HT1, HT2, HT3, ⟨g4, H4⟩⟩, hb⟩
  have ok0 : okS n (tokN b n (0, sk.1 3, pl, sk.1 5), (tForget T.1, dForget T.2.1, dForget T.2.2.1, lForget T.2.2.2), 0, -1, l, o) := ⟨tokN_le (Nat.zero_le _), okN.of (n := 0) rfl (by decide) (by decide), ⟨Or.inl hc.1, okN.of (n := 0) rfl (by decide) (by decide)⟩, ⟨Or.inr hc.2, okN.of (n := 0) rfl (by decide) (by decide)⟩, okN.of (n := 0) rfl (by decide) (by decide), okN.of (n := 0) rfl (by decide) (by decide), show nat 0 + 0 ≤ nat 0 from Nat.le_refl _, rfl, by decide⟩
  exact readLoop_V (by omega) hs hn hbb (n + 1) 0 h5 (tokN b n (0, sk.1 3, pl, sk.1 5), (tForget T.1, dForget T.2.1, dForget T.2.2.1, lForget T.2.2.2), 0, -1, l, o) (by omega) ok0 HP hfr
