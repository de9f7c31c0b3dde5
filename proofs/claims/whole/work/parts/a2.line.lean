/-! A LINE of the model beside the class's: what holds, its beginning, its end -/
/-- what the reading of a TEXT changes: the upper halves, the TOKEN, the FAULT -/
def frP (s s' : St) : Prop := s'.2.2 = s.2.2 ∧ (∀ j, (j < 20 ∨ j = 22 ∨ j = 29 ∨ j = 30 ∨ 33 ≤ j) → s'.1 j = s.1 j) ∧ (∀ k, (k < 3 ∨ 19 < k) → s'.2.1 k = s.2.1 k) ∧ ∀ k, 3 ≤ k → k ≤ 19 → ∀ i, i < hl k → s'.2.1 k i = s.2.1 k i
theorem frP.rf {s : St} : frP s s := ⟨rfl, fun _ _ => rfl, fun _ _ => rfl, fun _ _ _ _ _ => rfl⟩
theorem frP.tr {s s1 s2 : St} (h : frP s s1) (k : frP s1 s2) : frP s s2 :=
  ⟨k.1.trans h.1, fun j a => (k.2.1 j a).trans (h.2.1 j a), fun j a => (k.2.2.1 j a).trans (h.2.2.1 j a), fun j a c i e => (k.2.2.2 j a c i e).trans (h.2.2.2 j a c i e)⟩
theorem frP.k3 {s s1 s2 : St} (h : frP s s1) (k : frK3 s1 s2) : frP s s2 :=
  h.tr ⟨by rw [k.1], fun j a => k.2 j (by omega) (by omega) (by omega) (by omega) (by omega) (by omega), fun j _ => by rw [k.1], fun j _ _ i _ => by rw [k.1]⟩
theorem frP.k2 {s s1 s2 : St} (h : frP s s1) (k : frK2 s1 s2) : frP s s2 := h.k3 (frK3.of k)
theorem frP.a {s s1 : St} {k j : Nat} {v : Int32} (h : frP s s1) (h3 : 3 ≤ k) (h19 : k ≤ 19) (hj : hl k ≤ j) : frP s (mA s1 k j v) := by
  refine h.tr ⟨rfl, fun _ _ => rfl, fun q hq => mA_ne (by omega), fun q _ _ i hi => ?_⟩
  by_cases e : q = k
  · subst e; rw [mA_at, if_neg (by omega)]
  · rw [mA_ne e]
theorem frP.i {s s1 : St} {j : Nat} {v : Int32} (h : frP s s1) (hj : j = 20 ∨ j = 21 ∨ j = 27 ∨ j = 28 ∨ j = 31 ∨ j = 32) : frP s (mI s1 j v) :=
  h.tr ⟨rfl, fun i a => upd_ne (by omega), fun _ _ => rfl, fun _ _ _ _ _ => rfl⟩
theorem frP.w {s s1 : St} {c : Int32} (h : frP s s1) : frP s (wS s1 c) := (h.i (by decide)).i (by decide)
theorem frP.e {s s1 s2 : St} (h : frP s s1) (k : frQ s1 s2) : frP s s2 := by
  obtain ⟨k1, k2, k3, k4, k5⟩ := k
  refine h.tr ⟨k1, fun j a => k2 j (by omega) (by omega) (by omega) (by omega) (by omega) (by omega) (by omega) (by omega), fun j a => k3 j (by omega) (by omega) (by omega), fun j a c i e => ?_⟩
  by_cases e3 : j = 3
  · subst e3; exact k4 i (by have : hl 3 = 8 := rfl; omega)
  by_cases e18 : j = 18
  · subst e18; exact (k5 i (by have : hl 18 = 64 := rfl; omega)).1
  by_cases e19 : j = 19
  · subst e19; exact (k5 i (by have : hl 19 = 64 := rfl; omega)).2
  exact congrFun (k3 j e3 e18 e19) i
/-- all but the TOKEN -/
def relM (n : Nat) (s : St) (S : PS) : Prop := relT S.2.1 (upF s.2.1) ∧ s.1 31 = 0 ∧ s.1 32 = (lawsOf S).1 0 ∧ (lawsOf S).1 0 = (lawsOf S).1 1 ∧ S.2.1.2.1.1 1 = 12 ∧ S.2.1.2.2.1.1 1 = 8 ∧ okS n S
def relP (b : Nat → Int32) (n : Nat) (s : St) (S : PS) : Prop := tkS b n s S.1 ∧ relM n s S ∧ tdR S.2.1 (s.1 20)
theorem relM.same {n : Nat} {s s2 : St} {S : PS} (h : relM n s S) (e : s2.2 = s.2) (e31 : s2.1 31 = s.1 31) (e32 : s2.1 32 = s.1 32) : relM n s2 S := by
  unfold relM at h ⊢
  rw [e, e31, e32]
  exact h
theorem relP.step {b : Nat → Int32} {n : Nat} {s s2 : St} {S : PS} (h : relP b n s S) (k : frK2 s s2) (t : tkS b n s2 (tokN b n S.1)) : relP b n s2 (stepP b n S) := by
  obtain ⟨h1, h2, h3⟩ := h
  obtain ⟨g1, g2, g3, g4, g5, g6, g7⟩ := h2
  refine ⟨t, ⟨by rw [k.1]; exact g1, (k.2 31 (by decide) (by decide) (by decide) (by decide)).trans g2, (k.2 32 (by decide) (by decide) (by decide) (by decide)).trans g3, g4, g5, g6, okS_step g7⟩, ?_⟩
  show tdR S.2.1 (s2.1 20)
  rw [k.2 20 (by decide) (by decide) (by decide) (by decide)]
  exact h3
def oneP (b : Nat → Int32) (n : Nat) (S : PS) : Bool × PS := bindP (lineP b n S) (fun S1 => bindP (nextP 30 S1) (fun S2 => (true, stepP b n S2)))
def LPo (b : Nat → Int32) (n : Nat) (S : PS) (s0 : St) : Option Value → St → Prop := fun v s' => v = none ∧ frP s0 s' ∧ (FAILS (oneP b n S) s' ∨ ((oneP b n S).1 = true ∧ relP b n s' (oneP b n S).2 ∧ s'.1 21 = s0.1 21 + 1))
theorem oneP_f {b : Nat → Int32} {n : Nat} {S : PS} (h : (lineP b n S).1 = false) : oneP b n S = lineP b n S := bindP_f h
def BD (b : Nat → Int32) (n : Nat) (S : PS) (s : St) : Prop := FAILS (lineP b n S) s ∨ ((lineP b n S).1 = true ∧ relP b n s (lineP b n S).2)
theorem tkS.isS {b : Nat → Int32} {n : Nat} {s : St} {q : Tk} (h : tkS b n s q) {j : Nat} (hj : j < 13) {c k : Int32} (hc : c = sgT j) (hk : k = nI (30 + j)) : (s.1 27 = 0 ∧ s.1 25 = 3 ∧ s.1 26 = c) ↔ q.2.1 = k := by
  have := kR_sign h.1.2.2 hj
  rw [hc, hk, ← this]
  exact ⟨fun z => z.2, fun z => ⟨h.2.2.2.2.1, z⟩⟩
set_option maxRecDepth 100000 in
set_option maxHeartbeats 2000000 in
theorem lineEnd_M {d n0 a : Nat} {κ : Kd} {h0 : Hp} (hd : 8 ≤ d) {b : Nat → Int32} {n : Nat} (hn : n ≤ 700) (hbb : ∀ k, k < n → ¬ b k = -1 ∧ b k < 256) {s0 s : St} {S : PS} (hf : frP s0 s) (h21 : s.1 21 = s0.1 21) (hD : BD b n S s) : MV MX12_line (d, 0, 0, n0, κ) a h0 s 369 [some (.ref a), none, none, none, none] [] (LPo b n S s0) := by
  rcases hD with hD | ⟨hR1, hR⟩
  · skip
    refine MV.aload_n dX12_line_369 rfl ?_
    refine MV.getf 27 fl_X12_202 dX12_line_370 (by decide) rfl ?_
    refine MV.if_eq 377 dX12_line_373 (by decide) (fun z => absurd z (hD.ne)) (fun _ => ?_)
    refine MV.vret dX12_line_376 rfl ?_
    exact ⟨rfl, hf, Or.inl (by rw [oneP_f hD.1]; exact hD)⟩
  · skip
    by_cases h30 : (lineP b n S).2.1.2.1 = 30
    · skip
      have ho : oneP b n S = (true, stepP b n (lineP b n S).2) := by
        unfold oneP
        rw [bindP_t hR1]
        unfold nextP
        rw [if_pos h30]
        rfl
      refine MV.aload_n dX12_line_369 rfl ?_
      refine MV.getf 27 fl_X12_202 dX12_line_370 (by decide) rfl ?_
      refine MV.if_eq 377 dX12_line_373 (by decide) (fun _ => ?_) (fun z => absurd (hR.1.2.2.2.2.1) z)
      refine MV.aload_n dX12_line_377 rfl ?_
      refine MV.bipush (v := 59) dX12_line_378 (by decide) ?_
      refine MV.cV1 yoX12_isSign ml_X12_258 im_X12_isSign se_X12_isSign dX12_line_380 rfl (Nat.le_of_ble_eq_true rfl) (by omega) rfl (Nat.le_of_ble_eq_true rfl) (isSign_M (by omega)) (MV.rdK ?_)
      refine MV.eqi 1 (bI_dt ((hR.1.isS (j := 0) (c := 59) (k := 30) (by decide) (by decide) (by decide)).mpr h30)) ?_
      refine MV.if_ne 394 dX12_line_383 (by decide) (fun _ => ?_) (fun z => absurd z (show ¬ (1 : Int32) = 0 by decide))
      refine MV.aload_n dX12_line_394 rfl ?_
      refine MV.cV0 yoX12_token ml_X12_208 im_X12_token se_X12_token dX12_line_395 rfl (Nat.le_of_ble_eq_true rfl) (by omega) rfl (Nat.le_of_ble_eq_true rfl) (hR.1.token (by omega) hn hbb) ?_
      rintro _ s2 ⟨rfl, h1, h2⟩
      refine MV.aload_n dX12_line_398 rfl ?_
      refine MV.dup dX12_line_399 rfl ?_
      refine MV.getf 21 fl_X12_261 dX12_line_400 (by decide) rfl ?_
      refine MV.iconst (v := 1) dX12_line_403 (by decide) ?_
      refine MV.iadd dX12_line_404 ?_
      refine MV.putf 21 fl_X12_261 dX12_line_405 (by decide) rfl (rfl) (rfl) C12_s21 ?_
      refine MV.vret dX12_line_408 rfl ?_
      have hfr := (hf.k2 h1).i (j := 21) (v := s2.1 21 + 1) (by decide)
      have hs0 := hR.step h1 h2
      have hst : relP b n (mI s2 21 (s2.1 21 + 1)) (stepP b n (lineP b n S).2) := ⟨hs0.1, hs0.2.1.same rfl rfl rfl, hs0.2.2⟩
      exact ⟨rfl, hfr, Or.inr ⟨by rw [ho], by rw [ho]; exact hst, by show s2.1 21 + 1 = _; rw [h1.2 21 (by decide) (by decide) (by decide) (by decide), h21]⟩⟩
    · skip
      have ho : oneP b n S = (false, failP 1 (lineP b n S).2) := by
        unfold oneP
        rw [bindP_t hR1]
        unfold nextP
        rw [if_neg h30]
        rfl
      refine MV.aload_n dX12_line_369 rfl ?_
      refine MV.getf 27 fl_X12_202 dX12_line_370 (by decide) rfl ?_
      refine MV.if_eq 377 dX12_line_373 (by decide) (fun _ => ?_) (fun z => absurd (hR.1.2.2.2.2.1) z)
      refine MV.aload_n dX12_line_377 rfl ?_
      refine MV.bipush (v := 59) dX12_line_378 (by decide) ?_
      refine MV.cV1 yoX12_isSign ml_X12_258 im_X12_isSign se_X12_isSign dX12_line_380 rfl (Nat.le_of_ble_eq_true rfl) (by omega) rfl (Nat.le_of_ble_eq_true rfl) (isSign_M (by omega)) (MV.rdK ?_)
      refine MV.eqi 0 (bI_df (fun z => h30 ((hR.1.isS (j := 0) (c := 59) (k := 30) (by decide) (by decide) (by decide)).mp z))) ?_
      refine MV.if_ne 394 dX12_line_383 (by decide) (fun z => absurd (rfl) z) (fun _ => ?_)
      refine MV.aload_n dX12_line_386 rfl ?_
      refine MV.iconst (v := 1) dX12_line_387 (by decide) ?_
      refine MV.cV1 yoX12_wrong ml_X12_211 im_X12_wrong se_X12_wrong dX12_line_388 rfl (Nat.le_of_ble_eq_true rfl) (by omega) rfl (Nat.le_of_ble_eq_true rfl) (wrong0_M (by omega) hR.1.2.2.2.2.1) ?_
      rintro _ _ ⟨rfl, rfl⟩
      refine MV.goto 398 dX12_line_391 (by decide) ?_
      refine MV.aload_n dX12_line_398 rfl ?_
      refine MV.dup dX12_line_399 rfl ?_
      refine MV.getf 21 fl_X12_261 dX12_line_400 (by decide) rfl ?_
      refine MV.iconst (v := 1) dX12_line_403 (by decide) ?_
      refine MV.iadd dX12_line_404 ?_
      refine MV.putf 21 fl_X12_261 dX12_line_405 (by decide) rfl (rfl) (rfl) C12_s21 ?_
      refine MV.vret dX12_line_408 rfl ?_
      exact ⟨rfl, (hf.w (c := 1)).i (by decide), Or.inl (by rw [ho]; exact ⟨rfl, show ¬ (1 : Int32) = 0 by decide, rfl, hR.1.1.2.1⟩)⟩
theorem kR_low {kd vl so v : Int32} (h : kR kd vl so v) : (so = 0 ∧ v ≤ 7) ↔ ∃ w, w < 8 ∧ kd = nI w := by
  have hp : ∀ w, w < 21 → ((nI w ≤ 7 ↔ w < 8) ∧ (w < 8 → permW w = w) ∧ ∀ u, u < 8 → (nI (permW w) = nI u ↔ w = u)) := by decide +kernel
  have hx : ∀ j, j < 13 → ∀ u, u < 8 → ¬ nI (30 + j) = nI u := by decide +kernel
  have hy : ∀ u, u < 8 → ¬ (-1 : Int32) = nI u ∧ ¬ (-2 : Int32) = nI u ∧ ¬ (-3 : Int32) = nI u ∧ ¬ (-4 : Int32) = nI u := by decide +kernel
  rcases h with ⟨h1, h2⟩ | ⟨h1, h2⟩ | ⟨h1, h2, -⟩ | ⟨h1, h2, -⟩ | ⟨u, hu, h1, h2, h3⟩ | ⟨j, hj, h1, h2, -⟩
  · rw [h1, h2]; exact ⟨fun z => absurd z.1 (by decide), fun ⟨w, hw, z⟩ => absurd z (hy w hw).1⟩
  · rw [h1, h2]; exact ⟨fun z => absurd z.1 (by decide), fun ⟨w, hw, z⟩ => absurd z (hy w hw).2.1⟩
  · rw [h1, h2]; exact ⟨fun z => absurd z.1 (by decide), fun ⟨w, hw, z⟩ => absurd z (hy w hw).2.2.1⟩
  · rw [h1, h2]; exact ⟨fun z => absurd z.1 (by decide), fun ⟨w, hw, z⟩ => absurd z (hy w hw).2.2.2⟩
  · rw [h1, h2, h3]
    refine ⟨fun z => ⟨u, (hp u hu).1.mp z.2, by rw [(hp u hu).2.1 ((hp u hu).1.mp z.2)]⟩, fun ⟨w, hw, z⟩ => ⟨rfl, (hp u hu).1.mpr ?_⟩⟩
    have := ((hp u hu).2.2 w hw).mp z
    omega
  · rw [h1, h2]; exact ⟨fun z => absurd z.1 (by decide), fun ⟨w, hw, z⟩ => absurd z (hx j hj w hw)⟩
theorem pw8 : ∀ w, w < 8 → permW w = w := by decide
set_option maxRecDepth 100000 in
set_option maxHeartbeats 4000000 in
theorem linePre_M {d n0 a : Nat} {κ : Kd} {h0 : Hp} (hd : 8 ≤ d) {b : Nat → Int32} {n : Nat} (hn : n ≤ 700) (hbb : ∀ k, k < n → ¬ b k = -1 ∧ b k < 256) {s : St} {S : PS} (h : relP b n s S) {w : Nat} (hw : w < 8) (hk : S.1.2.1 = nI w) (hfull : fullB s (nI w) = false) (htd : w = 5 ∨ w = 6 → bt (s.1 20) w = false) {P : Option Value → St → Prop} (kk : ∀ s2, frK2 (mI s 20 (s.1 20 ||| (1 <<< (nI w &&& 31)))) s2 → tkS b n s2 (tokN b n S.1) → MV MX12_line (d, 0, 0, n0, κ) a h0 s2 95 [some (.ref a), some (.int (nI w)), none, none, none] [] P) : MV MX12_line (d, 0, 0, n0, κ) a h0 s 0 [some (.ref a), none, none, none, none] [] P := by
  have hkw := (kR_word h.1.1.2.2 (w := w) (by omega)).mpr (hk.trans (by rw [pw8 w hw]))
  have hval : s.1 26 = nI w := hkw.2
  have htst : (w = 5 ∨ w = 6) → ¬ (s.1 20 >>> (nI w &&& 31)) &&& 1 = 1 := fun z y => by rw [(bt_tst (by omega)).2.mp y] at htd; exact absurd (htd z) (by decide)
  refine MV.aload_n dX12_line_0 rfl ?_
  refine MV.getf 25 fl_X12_167 dX12_line_1 (by decide) rfl ?_
  refine MV.if_ne 16 dX12_line_4 (by decide) (fun z => absurd (hkw.1) z) (fun _ => ?_)
  refine MV.aload_n dX12_line_7 rfl ?_
  refine MV.getf 26 fl_X12_177 dX12_line_8 (by decide) rfl ?_
  refine MV.bipush (v := 7) dX12_line_11 (by decide) ?_
  refine MV.icmp_le 22 dX12_line_13 (by decide) (fun _ => ?_) (fun z => absurd (by rw [hval]; exact nI_le (b := 7) (by omega) (by decide)) z)
  refine MV.aload_n dX12_line_22 rfl ?_
  refine MV.getf (v := .int (nI w)) 26 fl_X12_177 dX12_line_23 (by decide) (congrArg (fun z => some (Value.int z)) hval) ?_
  refine MV.istore_n dX12_line_26 (by decide) rfl ?_
  refine MV.aload_n dX12_line_27 rfl ?_
  refine MV.iload_n dX12_line_28 rfl ?_
  refine MV.cV1 yoX12_isFull ml_X12_228 im_X12_isFull se_X12_isFull dX12_line_29 rfl (Nat.le_of_ble_eq_true rfl) (by omega) rfl (Nat.le_of_ble_eq_true rfl) (isFull_M (by omega)) (MV.rdK ?_)
  refine MV.eqi 0 (by rw [hfull]; rfl) ?_
  refine MV.if_eq 43 dX12_line_32 (by decide) (fun _ => ?_) (fun z => absurd (rfl) z)
  refine MV.iload_n dX12_line_43 rfl ?_
  refine MV.iconst (v := 5) dX12_line_44 (by decide) ?_
  refine MV.icmp_eq 54 dX12_line_45 (by decide) (fun c45 => ?_) (fun c45 => ?_)
  · skip
    have hw5 : w = 5 := nI_eq700 (y := 5) (by omega) (by decide) c45
    refine MV.aload_n dX12_line_54 rfl ?_
    refine MV.getf 20 fl_X12_231 dX12_line_55 (by decide) rfl ?_
    refine MV.iload_n dX12_line_58 rfl ?_
    refine MV.ishr dX12_line_59 ?_
    refine MV.iconst (v := 1) dX12_line_60 (by decide) ?_
    refine MV.iand dX12_line_61 ?_
    refine MV.iconst (v := 1) dX12_line_62 (by decide) ?_
    refine MV.icmp_ne 71 dX12_line_63 (by decide) (fun _ => ?_) (fun z => absurd z (htst (by omega)))
    refine MV.aload_n dX12_line_71 rfl ?_
    refine MV.getf 27 fl_X12_202 dX12_line_72 (by decide) rfl ?_
    refine MV.if_eq 79 dX12_line_75 (by decide) (fun _ => ?_) (fun z => absurd (h.1.2.2.2.2.1) z)
    refine MV.aload_n dX12_line_79 rfl ?_
    refine MV.dup dX12_line_80 rfl ?_
    refine MV.getf 20 fl_X12_231 dX12_line_81 (by decide) rfl ?_
    refine MV.iconst (v := 1) dX12_line_84 (by decide) ?_
    refine MV.iload_n dX12_line_85 rfl ?_
    refine MV.ishl dX12_line_86 ?_
    refine MV.ior dX12_line_87 ?_
    refine MV.putf 20 fl_X12_231 dX12_line_88 (by decide) rfl (rfl) (rfl) C12_s20 ?_
    refine MV.aload_n dX12_line_91 rfl ?_
    refine MV.cV0 yoX12_token ml_X12_208 im_X12_token se_X12_token dX12_line_92 rfl (Nat.le_of_ble_eq_true rfl) (by omega) rfl (Nat.le_of_ble_eq_true rfl) ((show tkS b n (mI s 20 (s.1 20 ||| (1 <<< (nI w &&& 31)))) S.1 from h.1).token (by omega) hn hbb) ?_
    rintro _ s2 ⟨rfl, h1, h2⟩
    exact kk s2 h1 h2
  · skip
    refine MV.iload_n dX12_line_48 rfl ?_
    refine MV.bipush (v := 6) dX12_line_49 (by decide) ?_
    refine MV.icmp_ne 71 dX12_line_51 (by decide) (fun c51 => ?_) (fun c51 => ?_)
    · skip
      refine MV.aload_n dX12_line_71 rfl ?_
      refine MV.getf 27 fl_X12_202 dX12_line_72 (by decide) rfl ?_
      refine MV.if_eq 79 dX12_line_75 (by decide) (fun _ => ?_) (fun z => absurd (h.1.2.2.2.2.1) z)
      refine MV.aload_n dX12_line_79 rfl ?_
      refine MV.dup dX12_line_80 rfl ?_
      refine MV.getf 20 fl_X12_231 dX12_line_81 (by decide) rfl ?_
      refine MV.iconst (v := 1) dX12_line_84 (by decide) ?_
      refine MV.iload_n dX12_line_85 rfl ?_
      refine MV.ishl dX12_line_86 ?_
      refine MV.ior dX12_line_87 ?_
      refine MV.putf 20 fl_X12_231 dX12_line_88 (by decide) rfl (rfl) (rfl) C12_s20 ?_
      refine MV.aload_n dX12_line_91 rfl ?_
      refine MV.cV0 yoX12_token ml_X12_208 im_X12_token se_X12_token dX12_line_92 rfl (Nat.le_of_ble_eq_true rfl) (by omega) rfl (Nat.le_of_ble_eq_true rfl) ((show tkS b n (mI s 20 (s.1 20 ||| (1 <<< (nI w &&& 31)))) S.1 from h.1).token (by omega) hn hbb) ?_
      rintro _ s2 ⟨rfl, h1, h2⟩
      exact kk s2 h1 h2
    · skip
      have hw6 : w = 6 := nI_eq700 (y := 6) (by omega) (by decide) c51
      refine MV.aload_n dX12_line_54 rfl ?_
      refine MV.getf 20 fl_X12_231 dX12_line_55 (by decide) rfl ?_
      refine MV.iload_n dX12_line_58 rfl ?_
      refine MV.ishr dX12_line_59 ?_
      refine MV.iconst (v := 1) dX12_line_60 (by decide) ?_
      refine MV.iand dX12_line_61 ?_
      refine MV.iconst (v := 1) dX12_line_62 (by decide) ?_
      refine MV.icmp_ne 71 dX12_line_63 (by decide) (fun _ => ?_) (fun z => absurd z (htst (by omega)))
      refine MV.aload_n dX12_line_71 rfl ?_
      refine MV.getf 27 fl_X12_202 dX12_line_72 (by decide) rfl ?_
      refine MV.if_eq 79 dX12_line_75 (by decide) (fun _ => ?_) (fun z => absurd (h.1.2.2.2.2.1) z)
      refine MV.aload_n dX12_line_79 rfl ?_
      refine MV.dup dX12_line_80 rfl ?_
      refine MV.getf 20 fl_X12_231 dX12_line_81 (by decide) rfl ?_
      refine MV.iconst (v := 1) dX12_line_84 (by decide) ?_
      refine MV.iload_n dX12_line_85 rfl ?_
      refine MV.ishl dX12_line_86 ?_
      refine MV.ior dX12_line_87 ?_
      refine MV.putf 20 fl_X12_231 dX12_line_88 (by decide) rfl (rfl) (rfl) C12_s20 ?_
      refine MV.aload_n dX12_line_91 rfl ?_
      refine MV.cV0 yoX12_token ml_X12_208 im_X12_token se_X12_token dX12_line_92 rfl (Nat.le_of_ble_eq_true rfl) (by omega) rfl (Nat.le_of_ble_eq_true rfl) ((show tkS b n (mI s 20 (s.1 20 ||| (1 <<< (nI w &&& 31)))) S.1 from h.1).token (by omega) hn hbb) ?_
      rintro _ s2 ⟨rfl, h1, h2⟩
      exact kk s2 h1 h2
set_option maxRecDepth 100000 in
set_option maxHeartbeats 4000000 in
theorem lineFull_M {d n0 a : Nat} {κ : Kd} {h0 : Hp} (hd : 8 ≤ d) {b : Nat → Int32} {n : Nat} {s : St} {S : PS} (h : relP b n s S) {w : Nat} (hw : w < 8) (hk : S.1.2.1 = nI w) (hfull : fullB s (nI w) = true) (hl : lineP b n S = (false, failP 2 S)) : MV MX12_line (d, 0, 0, n0, κ) a h0 s 0 [some (.ref a), none, none, none, none] [] (LPo b n S s) := by
  have hkw := (kR_word h.1.1.2.2 (w := w) (by omega)).mpr (hk.trans (by rw [pw8 w hw]))
  have hval : s.1 26 = nI w := hkw.2
  refine MV.aload_n dX12_line_0 rfl ?_
  refine MV.getf 25 fl_X12_167 dX12_line_1 (by decide) rfl ?_
  refine MV.if_ne 16 dX12_line_4 (by decide) (fun z => absurd (hkw.1) z) (fun _ => ?_)
  refine MV.aload_n dX12_line_7 rfl ?_
  refine MV.getf 26 fl_X12_177 dX12_line_8 (by decide) rfl ?_
  refine MV.bipush (v := 7) dX12_line_11 (by decide) ?_
  refine MV.icmp_le 22 dX12_line_13 (by decide) (fun _ => ?_) (fun z => absurd (by rw [hval]; exact nI_le (b := 7) (by omega) (by decide)) z)
  refine MV.aload_n dX12_line_22 rfl ?_
  refine MV.getf (v := .int (nI w)) 26 fl_X12_177 dX12_line_23 (by decide) (congrArg (fun z => some (Value.int z)) hval) ?_
  refine MV.istore_n dX12_line_26 (by decide) rfl ?_
  refine MV.aload_n dX12_line_27 rfl ?_
  refine MV.iload_n dX12_line_28 rfl ?_
  refine MV.cV1 yoX12_isFull ml_X12_228 im_X12_isFull se_X12_isFull dX12_line_29 rfl (Nat.le_of_ble_eq_true rfl) (by omega) rfl (Nat.le_of_ble_eq_true rfl) (isFull_M (by omega)) (MV.rdK ?_)
  refine MV.eqi 1 (by rw [hfull]; rfl) ?_
  refine MV.if_eq 43 dX12_line_32 (by decide) (fun z => absurd z (show ¬ (1 : Int32) = 0 by decide)) (fun _ => ?_)
  refine MV.aload_n dX12_line_35 rfl ?_
  refine MV.iconst (v := 2) dX12_line_36 (by decide) ?_
  refine MV.cV1 yoX12_wrong ml_X12_211 im_X12_wrong se_X12_wrong dX12_line_37 rfl (Nat.le_of_ble_eq_true rfl) (by omega) rfl (Nat.le_of_ble_eq_true rfl) (wrong0_M (by omega) h.1.2.2.2.2.1) ?_
  rintro _ _ ⟨rfl, rfl⟩
  refine MV.goto 71 dX12_line_40 (by decide) ?_
  refine MV.aload_n dX12_line_71 rfl ?_
  refine MV.getf 27 fl_X12_202 dX12_line_72 (by decide) rfl ?_
  refine MV.if_eq 79 dX12_line_75 (by decide) (fun z => absurd z (show ¬ (2 : Int32) = 0 by decide)) (fun _ => ?_)
  refine MV.vret dX12_line_78 rfl ?_
  exact ⟨rfl, frP.rf.w, Or.inl (FAILS.w (by rw [oneP_f (by rw [hl]), hl]) (by decide) h.1.1)⟩
set_option maxRecDepth 100000 in
set_option maxHeartbeats 4000000 in
theorem lineTold_M {d n0 a : Nat} {κ : Kd} {h0 : Hp} (hd : 8 ≤ d) {b : Nat → Int32} {n : Nat} {s : St} {S : PS} (h : relP b n s S) {w : Nat} (hw : w < 8) (hk : S.1.2.1 = nI w) (hfull : fullB s (nI w) = false) (htd : w = 5 ∨ w = 6) (hb : bt (s.1 20) w = true) (hl : lineP b n S = (false, failP 3 S)) : MV MX12_line (d, 0, 0, n0, κ) a h0 s 0 [some (.ref a), none, none, none, none] [] (LPo b n S s) := by
  have hkw := (kR_word h.1.1.2.2 (w := w) (by omega)).mpr (hk.trans (by rw [pw8 w hw]))
  have hval : s.1 26 = nI w := hkw.2
  have htst : (s.1 20 >>> (nI w &&& 31)) &&& 1 = 1 := (bt_tst (by omega)).2.mpr hb
  refine MV.aload_n dX12_line_0 rfl ?_
  refine MV.getf 25 fl_X12_167 dX12_line_1 (by decide) rfl ?_
  refine MV.if_ne 16 dX12_line_4 (by decide) (fun z => absurd (hkw.1) z) (fun _ => ?_)
  refine MV.aload_n dX12_line_7 rfl ?_
  refine MV.getf 26 fl_X12_177 dX12_line_8 (by decide) rfl ?_
  refine MV.bipush (v := 7) dX12_line_11 (by decide) ?_
  refine MV.icmp_le 22 dX12_line_13 (by decide) (fun _ => ?_) (fun z => absurd (by rw [hval]; exact nI_le (b := 7) (by omega) (by decide)) z)
  refine MV.aload_n dX12_line_22 rfl ?_
  refine MV.getf (v := .int (nI w)) 26 fl_X12_177 dX12_line_23 (by decide) (congrArg (fun z => some (Value.int z)) hval) ?_
  refine MV.istore_n dX12_line_26 (by decide) rfl ?_
  refine MV.aload_n dX12_line_27 rfl ?_
  refine MV.iload_n dX12_line_28 rfl ?_
  refine MV.cV1 yoX12_isFull ml_X12_228 im_X12_isFull se_X12_isFull dX12_line_29 rfl (Nat.le_of_ble_eq_true rfl) (by omega) rfl (Nat.le_of_ble_eq_true rfl) (isFull_M (by omega)) (MV.rdK ?_)
  refine MV.eqi 0 (by rw [hfull]; rfl) ?_
  refine MV.if_eq 43 dX12_line_32 (by decide) (fun _ => ?_) (fun z => absurd (rfl) z)
  refine MV.iload_n dX12_line_43 rfl ?_
  refine MV.iconst (v := 5) dX12_line_44 (by decide) ?_
  refine MV.icmp_eq 54 dX12_line_45 (by decide) (fun c45 => ?_) (fun c45 => ?_)
  · skip
    refine MV.aload_n dX12_line_54 rfl ?_
    refine MV.getf 20 fl_X12_231 dX12_line_55 (by decide) rfl ?_
    refine MV.iload_n dX12_line_58 rfl ?_
    refine MV.ishr dX12_line_59 ?_
    refine MV.iconst (v := 1) dX12_line_60 (by decide) ?_
    refine MV.iand dX12_line_61 ?_
    refine MV.iconst (v := 1) dX12_line_62 (by decide) ?_
    refine MV.icmp_ne 71 dX12_line_63 (by decide) (fun z => absurd (htst) z) (fun _ => ?_)
    refine MV.aload_n dX12_line_66 rfl ?_
    refine MV.iconst (v := 3) dX12_line_67 (by decide) ?_
    refine MV.cV1 yoX12_wrong ml_X12_211 im_X12_wrong se_X12_wrong dX12_line_68 rfl (Nat.le_of_ble_eq_true rfl) (by omega) rfl (Nat.le_of_ble_eq_true rfl) (wrong0_M (by omega) h.1.2.2.2.2.1) ?_
    rintro _ _ ⟨rfl, rfl⟩
    refine MV.aload_n dX12_line_71 rfl ?_
    refine MV.getf 27 fl_X12_202 dX12_line_72 (by decide) rfl ?_
    refine MV.if_eq 79 dX12_line_75 (by decide) (fun z => absurd z (show ¬ (3 : Int32) = 0 by decide)) (fun _ => ?_)
    refine MV.vret dX12_line_78 rfl ?_
    exact ⟨rfl, frP.rf.w, Or.inl (FAILS.w (by rw [oneP_f (by rw [hl]), hl]) (by decide) h.1.1)⟩
  · skip
    refine MV.iload_n dX12_line_48 rfl ?_
    refine MV.bipush (v := 6) dX12_line_49 (by decide) ?_
    refine MV.icmp_ne 71 dX12_line_51 (by decide) (fun z => absurd (by have : w = 6 := htd.resolve_left (fun z => c45 (by rw [z]; rfl)); rw [this]; rfl) z) (fun _ => ?_)
    refine MV.aload_n dX12_line_54 rfl ?_
    refine MV.getf 20 fl_X12_231 dX12_line_55 (by decide) rfl ?_
    refine MV.iload_n dX12_line_58 rfl ?_
    refine MV.ishr dX12_line_59 ?_
    refine MV.iconst (v := 1) dX12_line_60 (by decide) ?_
    refine MV.iand dX12_line_61 ?_
    refine MV.iconst (v := 1) dX12_line_62 (by decide) ?_
    refine MV.icmp_ne 71 dX12_line_63 (by decide) (fun z => absurd (htst) z) (fun _ => ?_)
    refine MV.aload_n dX12_line_66 rfl ?_
    refine MV.iconst (v := 3) dX12_line_67 (by decide) ?_
    refine MV.cV1 yoX12_wrong ml_X12_211 im_X12_wrong se_X12_wrong dX12_line_68 rfl (Nat.le_of_ble_eq_true rfl) (by omega) rfl (Nat.le_of_ble_eq_true rfl) (wrong0_M (by omega) h.1.2.2.2.2.1) ?_
    rintro _ _ ⟨rfl, rfl⟩
    refine MV.aload_n dX12_line_71 rfl ?_
    refine MV.getf 27 fl_X12_202 dX12_line_72 (by decide) rfl ?_
    refine MV.if_eq 79 dX12_line_75 (by decide) (fun z => absurd z (show ¬ (3 : Int32) = 0 by decide)) (fun _ => ?_)
    refine MV.vret dX12_line_78 rfl ?_
    exact ⟨rfl, frP.rf.w, Or.inl (FAILS.w (by rw [oneP_f (by rw [hl]), hl]) (by decide) h.1.1)⟩
set_option maxRecDepth 100000 in
set_option maxHeartbeats 4000000 in
theorem lineNo_M {d n0 a : Nat} {κ : Kd} {h0 : Hp} (hd : 8 ≤ d) {b : Nat → Int32} {n : Nat} {s : St} {S : PS} (h : relP b n s S) (hk : ∀ w, w < 8 → ¬ S.1.2.1 = nI w) : MV MX12_line (d, 0, 0, n0, κ) a h0 s 0 [some (.ref a), none, none, none, none] [] (LPo b n S s) := by
  have hno : ¬ (s.1 25 = 0 ∧ s.1 26 ≤ 7) := fun z => by obtain ⟨w, hw, e⟩ := (kR_low h.1.1.2.2).mp z; exact hk w hw e
  have hl : lineP b n S = (false, failP 1 S) := by
    unfold lineP
    rw [if_neg (show ¬ S.1.2.1 = (0 : Int32) from hk 0 (by decide)), if_neg (show ¬ S.1.2.1 = (1 : Int32) from hk 1 (by decide)), if_neg (show ¬ S.1.2.1 = (2 : Int32) from hk 2 (by decide)), if_neg (show ¬ S.1.2.1 = (3 : Int32) from hk 3 (by decide)), if_neg (show ¬ S.1.2.1 = (4 : Int32) from hk 4 (by decide)), if_neg (show ¬ S.1.2.1 = (5 : Int32) from hk 5 (by decide)), if_neg (show ¬ S.1.2.1 = (6 : Int32) from hk 6 (by decide)), if_neg (show ¬ S.1.2.1 = (7 : Int32) from hk 7 (by decide))]
  refine MV.aload_n dX12_line_0 rfl ?_
  refine MV.getf 25 fl_X12_167 dX12_line_1 (by decide) rfl ?_
  refine MV.if_ne 16 dX12_line_4 (by decide) (fun c4 => ?_) (fun c4 => ?_)
  · skip
    refine MV.aload_n dX12_line_16 rfl ?_
    refine MV.iconst (v := 1) dX12_line_17 (by decide) ?_
    refine MV.cV1 yoX12_wrong ml_X12_211 im_X12_wrong se_X12_wrong dX12_line_18 rfl (Nat.le_of_ble_eq_true rfl) (by omega) rfl (Nat.le_of_ble_eq_true rfl) (wrong0_M (by omega) h.1.2.2.2.2.1) ?_
    rintro _ _ ⟨rfl, rfl⟩
    refine MV.vret dX12_line_21 rfl ?_
    exact ⟨rfl, frP.rf.w, Or.inl (FAILS.w (by rw [oneP_f (by rw [hl]), hl]) (by decide) h.1.1)⟩
  · skip
    refine MV.aload_n dX12_line_7 rfl ?_
    refine MV.getf 26 fl_X12_177 dX12_line_8 (by decide) rfl ?_
    refine MV.bipush (v := 7) dX12_line_11 (by decide) ?_
    refine MV.icmp_le 22 dX12_line_13 (by decide) (fun z => absurd z (fun z => hno ⟨c4, z⟩)) (fun _ => ?_)
    refine MV.aload_n dX12_line_16 rfl ?_
    refine MV.iconst (v := 1) dX12_line_17 (by decide) ?_
    refine MV.cV1 yoX12_wrong ml_X12_211 im_X12_wrong se_X12_wrong dX12_line_18 rfl (Nat.le_of_ble_eq_true rfl) (by omega) rfl (Nat.le_of_ble_eq_true rfl) (wrong0_M (by omega) h.1.2.2.2.2.1) ?_
    rintro _ _ ⟨rfl, rfl⟩
    refine MV.vret dX12_line_21 rfl ?_
    exact ⟨rfl, frP.rf.w, Or.inl (FAILS.w (by rw [oneP_f (by rw [hl]), hl]) (by decide) h.1.1)⟩
