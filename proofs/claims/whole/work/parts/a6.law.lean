/-! Line: law of the model -/
/-- the LINE fails at the TOKEN at hand, which is told at its end -/
def LT (b : Nat → Int32) (n : Nat) (S : PS) (s : St) : Prop := (lineP b n S).1 = false ∧ (lineP b n S).2.2.2.1 = 1 ∧ s.1 24 = (lineP b n S).2.2.2.2.1 ∧ s.1 27 = 0 ∧ ¬ (s.1 25 = 3 ∧ s.1 26 = 59)
theorem rule_w : ∀ w, w < 21 → ((¬ nI w < 8 ∧ nI w ≤ 10) ↔ (¬ nI (permW w) < 8 ∧ nI (permW w) ≤ 10)) ∧ ((¬ nI w < 8 ∧ nI w ≤ 10) → nI w = nI (permW w)) := by decide +kernel
theorem rule_s : ∀ j, j < 13 → ¬ (¬ nI (30 + j) < 8 ∧ nI (30 + j) ≤ 10) := by decide +kernel
theorem kR_rule {kd vl so v : Int32} (h : kR kd vl so v) : ((so = 0 ∧ ¬ v < 8 ∧ v ≤ 10) ↔ (¬ kd < 8 ∧ kd ≤ 10)) ∧ ((¬ kd < 8 ∧ kd ≤ 10) → v = kd) := by
  rcases h with ⟨h1, h2⟩ | ⟨h1, h2⟩ | ⟨h1, h2, -⟩ | ⟨h1, h2, -⟩ | ⟨w, hw, h1, h2, h3⟩ | ⟨j, hj, h1, h2, -⟩
  · rw [h1, h2]; exact ⟨⟨fun z => absurd z.1 (by decide), fun z => absurd (by decide) z.1⟩, fun z => absurd (by decide) z.1⟩
  · rw [h1, h2]; exact ⟨⟨fun z => absurd z.1 (by decide), fun z => absurd (by decide) z.1⟩, fun z => absurd (by decide) z.1⟩
  · rw [h1, h2]; exact ⟨⟨fun z => absurd z.1 (by decide), fun z => absurd (by decide) z.1⟩, fun z => absurd (by decide) z.1⟩
  · rw [h1, h2]; exact ⟨⟨fun z => absurd z.1 (by decide), fun z => absurd (by decide) z.1⟩, fun z => absurd (by decide) z.1⟩
  · rw [h1, h2, h3]
    obtain ⟨a1, a2⟩ := rule_w w hw
    exact ⟨⟨fun z => a1.mp z.2, fun z => ⟨rfl, a1.mpr z⟩⟩, fun z => a2 (a1.mpr z)⟩
  · rw [h1, h2]; exact ⟨⟨fun z => absurd z.1 (by decide), fun z => absurd z (rule_s j hj)⟩, fun z => absurd z (rule_s j hj)⟩
theorem wfE_ext {ks kt : Nat → Int32} : ∀ n k d, (∀ i, k ≤ i → i < k + n → kt i = ks i) → wfE ks n k d → wfE kt n k d := by
  intro n
  induction n with
  | zero => intro k d _ h; exact h
  | succ n ih =>
    intro k d h1 h2
    unfold wfE
    rw [h1 k (by omega) (by omega)]
    exact ⟨h2.1, ih (k + 1) _ (fun i a c => h1 i (by omega) (by omega)) h2.2⟩
theorem okN_eq {x y : Int32} {b c : Nat} (hx : okN x b) (hy : okN y c) (h : nat x = nat y) : x = y := by rw [hx.1, hy.1, h]
/-- a law told: what stands then -/
theorem relT_law {T : Tx} {g g2 : Nat → Nat → Int32} {L1 : St} {i : Nat} (h : relT T g) (hi : i < 3) (hg : grX T.2.2.2 L1 1) (ok : okL L1 [] 0) (h3 : ∀ k, k < 7 → g2 3 k = g 3 k) (hr : ∀ k, 4 ≤ k → k ≤ 15 → g2 k = g k) (h37 : g2 3 7 = L1.1 1) (h16 : ∀ r, r < 3 → g2 16 r = if r = i then T.2.2.2.1 1 else g 16 r) (h17 : ∀ r, r < 3 → g2 17 r = if r = i then L1.1 1 else g 17 r) (hkn : ∀ k, k < nat (L1.1 1) → knR (L1.2.1 2 k) (L1.2.1 3 k) (g2 18 k) (g2 19 k)) : relT (T.1, T.2.1, T.2.2.1, lSet L1 i (T.2.2.2.1 1)) g2 ∧ (∀ k, k < 3 → lTold (lSet L1 i (T.2.2.2.1 1)) k = (decide (k = i) || lTold T.2.2.2 k)) := by
  obtain ⟨hN, hJ, hD1, hD2, hL, hS, ⟨w1, w2, w3, w4⟩⟩ := h
  obtain ⟨r1, r2, r3, r4, r5, r6⟩ := hg
  have hlt : nat (T.2.2.2.1 1) < nat (L1.1 1) := by
    rcases Nat.lt_or_ge (nat (T.2.2.2.1 1)) (nat (L1.1 1)) with z | z
    · exact z
    · have := r6 0
      rw [show nat (L1.1 1) - nat (T.2.2.2.1 1) = 0 by omega] at this
      exact absurd (show 0 = 0 + 1 from this) (by omega)
  have okT : okN (T.2.2.2.1 1) 65 := by rw [w2]; exact w1
  have e4 : ∀ r, (lSet L1 i (T.2.2.2.1 1)).2.1 4 r = if r = i then T.2.2.2.1 1 else T.2.2.2.2.1 4 r := fun r => by
    show (if r = i then T.2.2.2.1 1 else L1.2.1 4 r) = _
    rw [r2]
  have e5 : ∀ r, (lSet L1 i (T.2.2.2.1 1)).2.1 5 r = if r = i then L1.1 1 else T.2.2.2.2.1 5 r := fun r => by
    show (if r = i then L1.1 1 else L1.2.1 5 r) = _
    rw [r3]
  refine ⟨?_, fun k hk => ?_⟩
  · have hN2 : relN (T.1, T.2.1, T.2.2.1, lSet L1 i (T.2.2.2.1 1)) g2 := by
      unfold relN
      rw [h3 0 (by decide), hr 4 (by decide) (by decide), hr 5 (by decide) (by decide)]
      exact hN
    have hJ2 : relJ (T.1, T.2.1, T.2.2.1, lSet L1 i (T.2.2.2.1 1)) g2 := by
      unfold relJ
      rw [h3 0 (by decide), h3 1 (by decide), hr 6 (by decide) (by decide), hr 7 (by decide) (by decide)]
      exact hJ
    have hL2 : relLn (T.1, T.2.1, T.2.2.1, lSet L1 i (T.2.2.2.1 1)) g2 := by
      unfold relLn
      rw [h3 0 (by decide), h3 4 (by decide), hr 14 (by decide) (by decide), hr 15 (by decide) (by decide)]
      exact hL
    refine ⟨hN2, hJ2, ?_, ?_, hL2, ?_, ?_⟩
    · rw [h3 2 (by decide), hr 8 (by decide) (by decide), hr 9 (by decide) (by decide), hr 10 (by decide) (by decide)]; exact hD1
    · rw [h3 3 (by decide), hr 11 (by decide) (by decide), hr 12 (by decide) (by decide), hr 13 (by decide) (by decide)]; exact hD2
    · rw [h3 5 (by decide), h3 6 (by decide)]; exact hS
    · refine ⟨by rw [h37]; exact ok.2.1, h37.symm, fun k hk => ?_, fun r hr3 => ?_⟩
      · rw [h37] at hk
        exact hkn k hk
      · show (lSet L1 i (T.2.2.2.1 1)).2.1 4 r = _ ∧ (lSet L1 i (T.2.2.2.1 1)).2.1 5 r = _ ∧ _
        rw [e4, e5, h16 r hr3, h17 r hr3, h37]
        by_cases z : r = i
        · simp only [if_pos z]
          refine ⟨trivial, trivial, okT, ok.2.1, r1, Nat.le_refl _, fun _ => ?_⟩
          exact wfX_E _ _ 0 (r6 0)
        · simp only [if_neg z]
          obtain ⟨a1, a2, a3, a4, a5, a6, a7⟩ := w4 r hr3
          have hb : nat (g 17 r) ≤ nat (T.2.2.2.1 1) := by rw [w2]; exact a6
          refine ⟨a1, a2, a3, a4, a5, by omega, fun y => wfE_ext _ _ 0 (fun j b1 b2 => (r5 j (by omega)).1) (a7 y)⟩
  · unfold lTold
    rw [e4, e5]
    by_cases z : k = i
    · rw [if_pos z, if_pos z, decide_eq_true z, Bool.true_or, decide_eq_true_eq]
      rw [ok.2.1.1, okT.1]
      have := ok.2.1.2
      exact nI_ge hlt (by omega)
    · rw [if_neg z, if_neg z, decide_eq_false z, Bool.false_or]
set_option maxRecDepth 100000 in
set_option maxHeartbeats 8000000 in
theorem lawLine_M {d n0 a : Nat} {κ : Kd} {h0 : Hp} (hd : 140 ≤ d) {b : Nat → Int32} {n : Nat} (hn : n ≤ 700) (hbb : ∀ k, k < n → ¬ b k = -1 ∧ b k < 256) {s0 s : St} {S : PS} (h : LQ b n S s0 s 7) (hk : S.1.2.1 = nI 7) : MV MX12_lawLine (d, 0, 0, n0, κ) a h0 s 0 [some (.ref a), none] [] (fun v s' => v = none ∧ frP s0 s' ∧ s'.1 21 = s0.1 21 ∧ (BD b n S s' ∨ LT b n S s')) := by
  obtain ⟨hf, h21, h20, hM, ht, htd⟩ := h
  obtain ⟨g1, g2, g3, g4, g5, g6, g7⟩ := id hM
  have hrl := kR_rule ht.1.2.2
  by_cases hk8 : ¬ (stepP b n S).1.2.1 < 8 ∧ (stepP b n S).1.2.1 ≤ 10
  · skip
    have hso := hrl.1.mpr hk8
    have hval : s.1 26 = (stepP b n S).1.2.1 := hrl.2 hk8
    obtain ⟨hk80, hk83⟩ := kind8 hk8.1 hk8.2
    obtain ⟨i, hie⟩ : ∃ i, i = nat ((stepP b n S).1.2.1 - 8) := ⟨_, rfl⟩
    have hi3 : i < 3 := by rw [hie]; exact hk83
    have hki : (stepP b n S).1.2.1 - 8 = nI i := by rw [hie]; exact hk80
    have hbt : bt (s.1 20) (16 + i) = lTold (lawsOf S) i := by
      rw [h20, bt_or, bt_1 7 (by omega) (16 + i) (by omega), decide_eq_false (show ¬ 16 + i = 7 by omega), Bool.or_false]
      exact htd.2.2 i hi3
    have hR1 : lineP b n S = rLaw1 b n i (stepP b n S) := by
      rw [lP_7 hk]
      unfold rLaw rLaw0
      rw [if_neg hk8.1, if_pos hk8.2, hie]
    by_cases htl : lTold (lawsOf S) i = true
    · skip
      have htst : (s.1 20 >>> (nI (16 + i) &&& 31)) &&& 1 = 1 := (bt_tst (by omega)).2.mpr (by rw [hbt]; exact htl)
      have hRt : lineP b n S = (false, failP 3 (stepP b n S)) := by
        rw [hR1]
        unfold rLaw1
        rw [if_pos (show lTold (lawsOf (stepP b n S)) i = true from htl)]
      refine MV.aload_n dX12_lawLine_0 rfl ?_
      refine MV.getf 25 fl_X12_167 dX12_lawLine_1 (by decide) rfl ?_
      refine MV.if_ne 25 dX12_lawLine_4 (by decide) (fun z => absurd (hso.1) z) (fun _ => ?_)
      refine MV.aload_n dX12_lawLine_7 rfl ?_
      refine MV.getf 26 fl_X12_177 dX12_lawLine_8 (by decide) rfl ?_
      refine MV.bipush (v := 8) dX12_lawLine_11 (by decide) ?_
      refine MV.icmp_lt 25 dX12_lawLine_13 (by decide) (fun z => absurd z (hso.2.1)) (fun _ => ?_)
      refine MV.aload_n dX12_lawLine_16 rfl ?_
      refine MV.getf 26 fl_X12_177 dX12_lawLine_17 (by decide) rfl ?_
      refine MV.bipush (v := 10) dX12_lawLine_20 (by decide) ?_
      refine MV.icmp_le 30 dX12_lawLine_22 (by decide) (fun _ => ?_) (fun z => absurd (hso.2.2) z)
      refine MV.aload_n dX12_lawLine_30 rfl ?_
      refine MV.getf (v := .int ((stepP b n S).1.2.1)) 26 fl_X12_177 dX12_lawLine_31 (by decide) (congrArg (fun z => some (Value.int z)) hval) ?_
      refine MV.bipush (v := 8) dX12_lawLine_34 (by decide) ?_
      refine MV.isub dX12_lawLine_36 ?_
      refine MV.eqi (nI i) hki ?_
      refine MV.istore_n dX12_lawLine_37 (by decide) rfl ?_
      refine MV.aload_n dX12_lawLine_38 rfl ?_
      refine MV.getf 27 fl_X12_202 dX12_lawLine_39 (by decide) rfl ?_
      refine MV.if_ne 65 dX12_lawLine_42 (by decide) (fun z => absurd (ht.2.2.2.2.1) z) (fun _ => ?_)
      refine MV.aload_n dX12_lawLine_45 rfl ?_
      refine MV.getf 20 fl_X12_231 dX12_lawLine_46 (by decide) rfl ?_
      refine MV.bipush (v := 16) dX12_lawLine_49 (by decide) ?_
      refine MV.iload_n dX12_lawLine_51 rfl ?_
      refine MV.iadd dX12_lawLine_52 ?_
      refine MV.eqi (nI (16 + i)) (nI_add 16 i) ?_
      refine MV.ishr dX12_lawLine_53 ?_
      refine MV.iconst (v := 1) dX12_lawLine_54 (by decide) ?_
      refine MV.iand dX12_lawLine_55 ?_
      refine MV.iconst (v := 1) dX12_lawLine_56 (by decide) ?_
      refine MV.icmp_ne 65 dX12_lawLine_57 (by decide) (fun z => absurd (htst) z) (fun _ => ?_)
      refine MV.aload_n dX12_lawLine_60 rfl ?_
      refine MV.iconst (v := 3) dX12_lawLine_61 (by decide) ?_
      refine MV.cV1 yoX12_wrong ml_X12_211 im_X12_wrong se_X12_wrong dX12_lawLine_62 rfl (Nat.le_of_ble_eq_true rfl) (by omega) rfl (Nat.le_of_ble_eq_true rfl) (wrong0_M (by omega) ht.2.2.2.2.1) ?_
      rintro _ _ ⟨rfl, rfl⟩
      refine MV.aload_n dX12_lawLine_65 rfl ?_
      refine MV.getf 27 fl_X12_202 dX12_lawLine_66 (by decide) rfl ?_
      refine MV.if_eq 73 dX12_lawLine_69 (by decide) (fun z => absurd z (show ¬ (3 : Int32) = 0 by decide)) (fun _ => ?_)
      refine MV.vret dX12_lawLine_72 rfl ?_
      exact ⟨rfl, hf.w, h21, Or.inl (Or.inl (FAILS.w hRt (by decide) ht.1))⟩
    · skip
      have htst : ¬ (s.1 20 >>> (nI (16 + i) &&& 31)) &&& 1 = 1 := fun z => htl (by rw [← hbt]; exact (bt_tst (by omega)).2.mp z)
      have hR : lineP b n S = rLaw2 b n i (stepP b n (stepP b n S)) := by
        rw [hR1]
        unfold rLaw1
        rw [if_neg (show ¬ lTold (lawsOf (stepP b n S)) i = true from htl)]
      have hx0 : (lawsOf S).1 1 = s.2.1 3 15 := g1.2.2.2.2.2.2.2.1
      obtain ⟨C, hC⟩ : ∃ C : Cx, C = (S.2.1.1, S.2.1.2.1, S.2.1.2.2.1, S.2.2.1, S.2.2.2.1) := ⟨_, rfl⟩
      have hbeg : begP (stepP b n (stepP b n S)) = mkS C (stepP b n (stepP b n S)).1 (lawsOf S) [] 0 := by rw [hC]; rfl
      have hmu : mu n (stepP b n (stepP b n S)).1 ≤ 701 := by
        unfold mu
        split
        · omega
        · rename_i z
          have := stepK_at z
          have h1 : 0 < (stepP b n (stepP b n S)).1.1 := Nat.lt_of_le_of_lt (Nat.zero_le _) this
          omega
      refine MV.aload_n dX12_lawLine_0 rfl ?_
      refine MV.getf 25 fl_X12_167 dX12_lawLine_1 (by decide) rfl ?_
      refine MV.if_ne 25 dX12_lawLine_4 (by decide) (fun z => absurd (hso.1) z) (fun _ => ?_)
      refine MV.aload_n dX12_lawLine_7 rfl ?_
      refine MV.getf 26 fl_X12_177 dX12_lawLine_8 (by decide) rfl ?_
      refine MV.bipush (v := 8) dX12_lawLine_11 (by decide) ?_
      refine MV.icmp_lt 25 dX12_lawLine_13 (by decide) (fun z => absurd z (hso.2.1)) (fun _ => ?_)
      refine MV.aload_n dX12_lawLine_16 rfl ?_
      refine MV.getf 26 fl_X12_177 dX12_lawLine_17 (by decide) rfl ?_
      refine MV.bipush (v := 10) dX12_lawLine_20 (by decide) ?_
      refine MV.icmp_le 30 dX12_lawLine_22 (by decide) (fun _ => ?_) (fun z => absurd (hso.2.2) z)
      refine MV.aload_n dX12_lawLine_30 rfl ?_
      refine MV.getf (v := .int ((stepP b n S).1.2.1)) 26 fl_X12_177 dX12_lawLine_31 (by decide) (congrArg (fun z => some (Value.int z)) hval) ?_
      refine MV.bipush (v := 8) dX12_lawLine_34 (by decide) ?_
      refine MV.isub dX12_lawLine_36 ?_
      refine MV.eqi (nI i) hki ?_
      refine MV.istore_n dX12_lawLine_37 (by decide) rfl ?_
      refine MV.aload_n dX12_lawLine_38 rfl ?_
      refine MV.getf 27 fl_X12_202 dX12_lawLine_39 (by decide) rfl ?_
      refine MV.if_ne 65 dX12_lawLine_42 (by decide) (fun z => absurd (ht.2.2.2.2.1) z) (fun _ => ?_)
      refine MV.aload_n dX12_lawLine_45 rfl ?_
      refine MV.getf 20 fl_X12_231 dX12_lawLine_46 (by decide) rfl ?_
      refine MV.bipush (v := 16) dX12_lawLine_49 (by decide) ?_
      refine MV.iload_n dX12_lawLine_51 rfl ?_
      refine MV.iadd dX12_lawLine_52 ?_
      refine MV.eqi (nI (16 + i)) (nI_add 16 i) ?_
      refine MV.ishr dX12_lawLine_53 ?_
      refine MV.iconst (v := 1) dX12_lawLine_54 (by decide) ?_
      refine MV.iand dX12_lawLine_55 ?_
      refine MV.iconst (v := 1) dX12_lawLine_56 (by decide) ?_
      refine MV.icmp_ne 65 dX12_lawLine_57 (by decide) (fun _ => ?_) (fun z => absurd z (htst))
      refine MV.aload_n dX12_lawLine_65 rfl ?_
      refine MV.getf 27 fl_X12_202 dX12_lawLine_66 (by decide) rfl ?_
      refine MV.if_eq 73 dX12_lawLine_69 (by decide) (fun _ => ?_) (fun z => absurd (ht.2.2.2.2.1) z)
      refine MV.aload_n dX12_lawLine_73 rfl ?_
      refine MV.dup dX12_lawLine_74 rfl ?_
      refine MV.getf 20 fl_X12_231 dX12_lawLine_75 (by decide) rfl ?_
      refine MV.iconst (v := 1) dX12_lawLine_78 (by decide) ?_
      refine MV.bipush (v := 16) dX12_lawLine_79 (by decide) ?_
      refine MV.iload_n dX12_lawLine_81 rfl ?_
      refine MV.iadd dX12_lawLine_82 ?_
      refine MV.eqi (nI (16 + i)) (nI_add 16 i) ?_
      refine MV.ishl dX12_lawLine_83 ?_
      refine MV.ior dX12_lawLine_84 ?_
      refine MV.putf 20 fl_X12_231 dX12_lawLine_85 (by decide) rfl (rfl) (rfl) C12_s20 ?_
      refine MV.aload_n dX12_lawLine_88 rfl ?_
      refine MV.cV0 yoX12_token ml_X12_208 im_X12_token se_X12_token dX12_lawLine_89 rfl (Nat.le_of_ble_eq_true rfl) (by omega) rfl (Nat.le_of_ble_eq_true rfl) ((show tkS b n (mI s 20 (s.1 20 ||| (1 <<< (nI (16 + i) &&& 31)))) (stepP b n S).1 from ht).token (by omega) hn hbb) ?_
      rintro _ s3 ⟨rfl, h3, t3⟩
      have hrq : relQ b n (mA s3 16 (3 + i) ((lawsOf S).1 1)) (stepP b n (stepP b n S)).1 (lawsOf S) 0 := ⟨t3.1, t3.2.1, t3.2.2.1, t3.2.2.2.1, t3.2.2.2.2.1, (h3.2 32 (by decide) (by decide) (by decide) (by decide)).trans g3, (h3.2 31 (by decide) (by decide) (by decide) (by decide)).trans g2, by show s3.2.1 3 15 = _; rw [h3.1]; exact hx0.symm, fun k hk => by show knR _ _ (s3.2.1 18 (64 + k)) (s3.2.1 19 (64 + k)); rw [h3.1]; exact g1.2.2.2.2.2.2.2.2.1 k (by rw [← g1.2.2.2.2.2.2.2.1]; exact hk), t3.2.2.2.2.2⟩
      refine MV.aload_n dX12_lawLine_92 rfl ?_
      refine MV.getf 16 fl_X12_52 dX12_lawLine_93 (by decide) rfl ?_
      refine MV.iconst (v := 3) dX12_lawLine_96 (by decide) ?_
      refine MV.iload_n dX12_lawLine_97 rfl ?_
      refine MV.iadd dX12_lawLine_98 ?_
      refine MV.aload_n dX12_lawLine_99 rfl ?_
      refine MV.bipush (v := nI 7) dX12_lawLine_100 (by decide) ?_
      refine MV.cV1 yoX12_fresher ml_X12_218 im_X12_fresher se_X12_fresher dX12_lawLine_102 rfl (Nat.le_of_ble_eq_true rfl) (by omega) rfl (Nat.le_of_ble_eq_true rfl) (fresher_M (k := 7) (by omega) (by omega)) (MV.rdK ?_)
      refine MV.eqi ((lawsOf S).1 1) (by show s3.2.1 3 15 = _; rw [h3.1]; exact hx0.symm) ?_
      refine MV.ast C12_in16 dX12_lawLine_105 (nI_add 3 i) (by omega) (by decide) ?_
      refine MV.aload_n dX12_lawLine_106 rfl ?_
      refine MV.cV0 yoX12_expression ml_X12_264 im_X12_expression se_X12_expression dX12_lawLine_107 rfl (Nat.le_of_ble_eq_true rfl) (by omega) rfl (Nat.le_of_ble_eq_true rfl) ((XC_all (C := C) hn hbb (mu n (stepP b n (stepP b n S)).1 + 1)).2 (d - 1) (mA s3 16 (3 + i) ((lawsOf S).1 1)) 701 true (stepP b n (stepP b n S)).1 (lawsOf S) [] 0 (by omega) hrq g7.2.2.2.2 hmu (by omega) (fun _ => rfl) (fun z => absurd z (by decide)) (fun x r hx => by cases hx)) ?_
      rintro _ s5 ⟨rfl, hq5, hx5⟩
      have hfr : frP s0 (mA s5 17 (3 + i) (s5.2.1 3 (8 + 7))) := (((((hf.i (j := 20) (v := (s.1 20 ||| (1 <<< (nI (16 + i) &&& 31)))) (by decide)).k2 h3).a (k := 16) (j := 3 + i) (v := (lawsOf S).1 1) (by decide) (by decide) (by show 3 ≤ 3 + i; omega)).e hq5).a (by decide) (by decide) (by show 3 ≤ 3 + i; omega))
      have hi21 : s5.1 21 = s0.1 21 := (hq5.2.1 21 (by decide) (by decide) (by decide) (by decide) (by decide) (by decide) (by decide) (by decide)).trans ((h3.2 21 (by decide) (by decide) (by decide) (by decide)).trans h21)
      rcases hx5 with hx5 | ⟨q3, L1, L2, W2, F2, hp, hst, hr5⟩
      · skip
        refine MV.aload_n dX12_lawLine_110 rfl ?_
        refine MV.getf 17 fl_X12_55 dX12_lawLine_111 (by decide) rfl ?_
        refine MV.iconst (v := 3) dX12_lawLine_114 (by decide) ?_
        refine MV.iload_n dX12_lawLine_115 rfl ?_
        refine MV.iadd dX12_lawLine_116 ?_
        refine MV.aload_n dX12_lawLine_117 rfl ?_
        refine MV.bipush (v := nI 7) dX12_lawLine_118 (by decide) ?_
        refine MV.cV1 yoX12_fresher ml_X12_218 im_X12_fresher se_X12_fresher dX12_lawLine_120 rfl (Nat.le_of_ble_eq_true rfl) (by omega) rfl (Nat.le_of_ble_eq_true rfl) (fresher_M (s := s5) (k := 7) (by omega) (by omega)) (MV.rdK ?_)
        refine MV.ast C12_in17 dX12_lawLine_123 (nI_add 3 i) (by omega) (by decide) ?_
        refine MV.vret dX12_lawLine_124 rfl ?_
        refine ⟨rfl, hfr, hi21, Or.inl (Or.inl ?_)⟩
        obtain ⟨c, p, e1, ⟨X, e2, e3, e4⟩, e5, e6⟩ := hx5
        have hRX : lineP b n S = (false, X) := by rw [hR]; unfold rLaw2; rw [hbeg]; exact bindP_f (by rw [e2]) |>.trans e2
        rw [hRX]
        exact ⟨rfl, by rw [e3]; exact e1, by rw [e3]; exact e5, by rw [e4]; exact e6⟩
      · skip
        refine MV.aload_n dX12_lawLine_110 rfl ?_
        refine MV.getf 17 fl_X12_55 dX12_lawLine_111 (by decide) rfl ?_
        refine MV.iconst (v := 3) dX12_lawLine_114 (by decide) ?_
        refine MV.iload_n dX12_lawLine_115 rfl ?_
        refine MV.iadd dX12_lawLine_116 ?_
        refine MV.aload_n dX12_lawLine_117 rfl ?_
        refine MV.bipush (v := nI 7) dX12_lawLine_118 (by decide) ?_
        refine MV.cV1 yoX12_fresher ml_X12_218 im_X12_fresher se_X12_fresher dX12_lawLine_120 rfl (Nat.le_of_ble_eq_true rfl) (by omega) rfl (Nat.le_of_ble_eq_true rfl) (fresher_M (s := s5) (k := 7) (by omega) (by omega)) (MV.rdK ?_)
        refine MV.ast C12_in17 dX12_lawLine_123 (nI_add 3 i) (by omega) (by decide) ?_
        refine MV.vret dX12_lawLine_124 rfl ?_
        refine ⟨rfl, hfr, hi21, ?_⟩
        by_cases hb : isBin q3.2.1 = true
        · refine Or.inr ?_
          obtain ⟨X, e2, e3, e4⟩ := stO_1 hp hst hb
          have hRX : lineP b n S = (false, X) := by rw [hR]; unfold rLaw2; rw [hbeg]; exact bindP_f (by rw [e2]) |>.trans e2
          refine ⟨by rw [hRX], by rw [hRX]; exact e3, by rw [hRX, e4]; exact hr5.1.2.1, hr5.2.2.2.2.1, fun z => ?_⟩
          have h59 := (hr5.isS (j := 0) (c := 59) (k := 30) (by decide) (by decide) (by decide)).mp ⟨hr5.2.2.2.2.1, z⟩
          rw [h59] at hb
          exact absurd hb (by decide)
        · refine Or.inl (Or.inr ?_)
          have he := hp.top hb
          obtain ⟨p1, p2, p3, p4, p5, p6, p7, p8, p9⟩ := hp
          have hRR : lineP b n S = (true, setL (mkS C q3 L1 [] 0) (lSet L1 i ((lawsOf S).1 1))) := by rw [hR]; unfold rLaw2; rw [hbeg, bindP_k he]; rfl
          have hok := okS_line (b := b) g7 (by rw [hRR])
          have H3 : ∀ k, k < 7 → (upF (mA s5 17 (3 + i) (s5.2.1 3 (8 + 7))).2.1) 3 k = (upF s.2.1) 3 k := by
            intro k hk
            show (mA s5 17 (3 + i) _).2.1 3 (8 + k) = s.2.1 3 (8 + k)
            rw [mA_ne (by decide), hq5.2.2.2.1 (8 + k) (by omega)]
            show uA s3.2.1 16 (3 + i) ((lawsOf S).1 1) 3 (8 + k) = _
            rw [uA_ne (by decide), h3.1]
            rfl
          have HR : ∀ k, 4 ≤ k → k ≤ 15 → (upF (mA s5 17 (3 + i) (s5.2.1 3 (8 + 7))).2.1) k = (upF s.2.1) k := by
            intro k k4 k15
            have ek : (mA s5 17 (3 + i) (s5.2.1 3 (8 + 7))).2.1 k = s.2.1 k := by
              rw [mA_ne (by omega), hq5.2.2.1 k (by omega) (by omega) (by omega)]
              show uA s3.2.1 16 (3 + i) ((lawsOf S).1 1) k = _
              rw [uA_ne (by omega), h3.1]
              rfl
            show (fun x => (mA s5 17 (3 + i) (s5.2.1 3 (8 + 7))).2.1 k (hl k + x)) = fun x => s.2.1 k (hl k + x)
            rw [ek]
          have H37 : (upF (mA s5 17 (3 + i) (s5.2.1 3 (8 + 7))).2.1) 3 7 = L1.1 1 := by
            show (mA s5 17 (3 + i) _).2.1 3 (8 + 7) = _
            rw [mA_ne (by decide)]
            exact hr5.2.2.2.2.2.2.2.1
          have H16 : ∀ r, r < 3 → (upF (mA s5 17 (3 + i) (s5.2.1 3 (8 + 7))).2.1) 16 r = if r = i then (lawsOf S).1 1 else (upF s.2.1) 16 r := by
            intro r hr3
            show (mA s5 17 (3 + i) _).2.1 16 (3 + r) = if r = i then (lawsOf S).1 1 else s.2.1 16 (3 + r)
            rw [mA_ne (by decide), hq5.2.2.1 16 (by decide) (by decide) (by decide)]
            show uA s3.2.1 16 (3 + i) ((lawsOf S).1 1) 16 (3 + r) = _
            rw [uA_at, h3.1]
            by_cases z : r = i
            · rw [if_pos z, if_pos (by omega)]
            · rw [if_neg z, if_neg (by omega)]; rfl
          have H17 : ∀ r, r < 3 → (upF (mA s5 17 (3 + i) (s5.2.1 3 (8 + 7))).2.1) 17 r = if r = i then L1.1 1 else (upF s.2.1) 17 r := by
            intro r hr3
            show (mA s5 17 (3 + i) _).2.1 17 (3 + r) = if r = i then L1.1 1 else s.2.1 17 (3 + r)
            rw [mA_at, hq5.2.2.1 17 (by decide) (by decide) (by decide)]
            by_cases z : r = i
            · rw [if_pos z, if_pos (by omega)]; exact hr5.2.2.2.2.2.2.2.1
            · rw [if_neg z, if_neg (by omega)]
              show uA s3.2.1 16 (3 + i) ((lawsOf S).1 1) 17 (3 + r) = _
              rw [uA_ne (by decide), h3.1]
              rfl
          have HK : ∀ k, k < nat (L1.1 1) → knR (L1.2.1 2 k) (L1.2.1 3 k) ((upF (mA s5 17 (3 + i) (s5.2.1 3 (8 + 7))).2.1) 18 k) ((upF (mA s5 17 (3 + i) (s5.2.1 3 (8 + 7))).2.1) 19 k) := by
            intro k hk
            show knR _ _ ((mA s5 17 (3 + i) _).2.1 18 (64 + k)) ((mA s5 17 (3 + i) _).2.1 19 (64 + k))
            rw [mA_ne (by decide), mA_ne (by decide)]
            exact hr5.2.2.2.2.2.2.2.2.1 k hk
          obtain ⟨hT2, hlt2⟩ := relT_law (T := S.2.1) (g := upF s.2.1) (g2 := (upF (mA s5 17 (3 + i) (s5.2.1 3 (8 + 7))).2.1)) g1 hi3 p6 p5 H3 HR H37 H16 H17 HK
          subst hC
          rw [hRR] at hok ⊢
          refine ⟨rfl, ⟨hr5.1, p7, hr5.2.2.1, hr5.2.2.2.1, hr5.2.2.2.2.1, hr5.2.2.2.2.2.2.2.2.2⟩, ⟨hT2, hr5.2.2.2.2.2.2.1, hr5.2.2.2.2.2.1, ?_, g5, g6, hok⟩, ?_⟩
          · have a1 : nat ((lawsOf S).1 0) = nat ((lawsOf S).1 1) := by rw [g4]
            have a2 : nat (L1.1 0) + nat ((lawsOf S).1 1) = nat ((lawsOf S).1 0) + nat (L1.1 1) := p9
            exact (show L1.1 0 = L1.1 1 from okN_eq p5.1 p5.2.1 (by omega))
          · have e20 : s5.1 20 = (s0.1 20 ||| (1 <<< (nI 7 &&& 31))) ||| (1 <<< (nI (16 + i) &&& 31)) := (hq5.2.1 20 (by decide) (by decide) (by decide) (by decide) (by decide) (by decide) (by decide) (by decide)).trans ((h3.2 20 (by decide) (by decide) (by decide) (by decide)).trans (by show s.1 20 ||| _ = _; rw [h20]))
            show tdR _ (s5.1 20)
            rw [e20]
            obtain ⟨d1, d2, d3⟩ := htd
            refine ⟨?_, ?_, fun k hk => ?_⟩
            · rw [bt_or, bt_or, bt_1 7 (by omega) 5 (by omega), bt_1 (16 + i) (by omega) 5 (by omega), d1, decide_eq_false (show ¬ 5 = 7 by omega), decide_eq_false (show ¬ 5 = 16 + i by omega), Bool.or_false, Bool.or_false]; rfl
            · rw [bt_or, bt_or, bt_1 7 (by omega) 6 (by omega), bt_1 (16 + i) (by omega) 6 (by omega), d2, decide_eq_false (show ¬ 6 = 7 by omega), decide_eq_false (show ¬ 6 = 16 + i by omega), Bool.or_false, Bool.or_false]; rfl
            · rw [bt_or, bt_or, bt_1 7 (by omega) (16 + k) (by omega), bt_1 (16 + i) (by omega) (16 + k) (by omega), d3 k hk, decide_eq_false (show ¬ 16 + k = 7 by omega), Bool.or_false, Bool.or_comm]
              refine Eq.trans ?_ (hlt2 k hk).symm
              rw [show decide (16 + k = 16 + i) = decide (k = i) by by_cases z : k = i; rw [decide_eq_true z, decide_eq_true (by omega)]; rw [decide_eq_false z, decide_eq_false (by omega)]]
  · skip
    have hno : ¬ (s.1 25 = 0 ∧ ¬ s.1 26 < 8 ∧ s.1 26 ≤ 10) := fun z => hk8 (hrl.1.mp z)
    have hRf : lineP b n S = (false, failP 1 (stepP b n S)) := by
      rw [lP_7 hk]
      unfold rLaw rLaw0
      by_cases z : (stepP b n S).1.2.1 < 8
      · rw [if_pos z]
      · rw [if_neg z, if_neg (fun y => hk8 ⟨z, y⟩)]
    refine MV.aload_n dX12_lawLine_0 rfl ?_
    refine MV.getf 25 fl_X12_167 dX12_lawLine_1 (by decide) rfl ?_
    refine MV.if_ne 25 dX12_lawLine_4 (by decide) (fun c4 => ?_) (fun c4 => ?_)
    · skip
      refine MV.aload_n dX12_lawLine_25 rfl ?_
      refine MV.iconst (v := 1) dX12_lawLine_26 (by decide) ?_
      refine MV.cV1 yoX12_wrong ml_X12_211 im_X12_wrong se_X12_wrong dX12_lawLine_27 rfl (Nat.le_of_ble_eq_true rfl) (by omega) rfl (Nat.le_of_ble_eq_true rfl) (wrong0_M (by omega) ht.2.2.2.2.1) ?_
      rintro _ _ ⟨rfl, rfl⟩
      refine MV.aload_n dX12_lawLine_30 rfl ?_
      refine MV.getf 26 fl_X12_177 dX12_lawLine_31 (by decide) rfl ?_
      refine MV.bipush (v := 8) dX12_lawLine_34 (by decide) ?_
      refine MV.isub dX12_lawLine_36 ?_
      refine MV.istore_n dX12_lawLine_37 (by decide) rfl ?_
      refine MV.aload_n dX12_lawLine_38 rfl ?_
      refine MV.getf 27 fl_X12_202 dX12_lawLine_39 (by decide) rfl ?_
      refine MV.if_ne 65 dX12_lawLine_42 (by decide) (fun _ => ?_) (fun z => absurd z (show ¬ (1 : Int32) = 0 by decide))
      refine MV.aload_n dX12_lawLine_65 rfl ?_
      refine MV.getf 27 fl_X12_202 dX12_lawLine_66 (by decide) rfl ?_
      refine MV.if_eq 73 dX12_lawLine_69 (by decide) (fun z => absurd z (show ¬ (1 : Int32) = 0 by decide)) (fun _ => ?_)
      refine MV.vret dX12_lawLine_72 rfl ?_
      exact ⟨rfl, hf.w, h21, Or.inl (Or.inl (FAILS.w hRf (by decide) ht.1))⟩
    · skip
      refine MV.aload_n dX12_lawLine_7 rfl ?_
      refine MV.getf 26 fl_X12_177 dX12_lawLine_8 (by decide) rfl ?_
      refine MV.bipush (v := 8) dX12_lawLine_11 (by decide) ?_
      refine MV.icmp_lt 25 dX12_lawLine_13 (by decide) (fun c13 => ?_) (fun c13 => ?_)
      · skip
        refine MV.aload_n dX12_lawLine_25 rfl ?_
        refine MV.iconst (v := 1) dX12_lawLine_26 (by decide) ?_
        refine MV.cV1 yoX12_wrong ml_X12_211 im_X12_wrong se_X12_wrong dX12_lawLine_27 rfl (Nat.le_of_ble_eq_true rfl) (by omega) rfl (Nat.le_of_ble_eq_true rfl) (wrong0_M (by omega) ht.2.2.2.2.1) ?_
        rintro _ _ ⟨rfl, rfl⟩
        refine MV.aload_n dX12_lawLine_30 rfl ?_
        refine MV.getf 26 fl_X12_177 dX12_lawLine_31 (by decide) rfl ?_
        refine MV.bipush (v := 8) dX12_lawLine_34 (by decide) ?_
        refine MV.isub dX12_lawLine_36 ?_
        refine MV.istore_n dX12_lawLine_37 (by decide) rfl ?_
        refine MV.aload_n dX12_lawLine_38 rfl ?_
        refine MV.getf 27 fl_X12_202 dX12_lawLine_39 (by decide) rfl ?_
        refine MV.if_ne 65 dX12_lawLine_42 (by decide) (fun _ => ?_) (fun z => absurd z (show ¬ (1 : Int32) = 0 by decide))
        refine MV.aload_n dX12_lawLine_65 rfl ?_
        refine MV.getf 27 fl_X12_202 dX12_lawLine_66 (by decide) rfl ?_
        refine MV.if_eq 73 dX12_lawLine_69 (by decide) (fun z => absurd z (show ¬ (1 : Int32) = 0 by decide)) (fun _ => ?_)
        refine MV.vret dX12_lawLine_72 rfl ?_
        exact ⟨rfl, hf.w, h21, Or.inl (Or.inl (FAILS.w hRf (by decide) ht.1))⟩
      · skip
        have h13 := c13
        refine MV.aload_n dX12_lawLine_16 rfl ?_
        refine MV.getf 26 fl_X12_177 dX12_lawLine_17 (by decide) rfl ?_
        refine MV.bipush (v := 10) dX12_lawLine_20 (by decide) ?_
        refine MV.icmp_le 30 dX12_lawLine_22 (by decide) (fun z => absurd z (fun z => hno ⟨c4, c13, z⟩)) (fun _ => ?_)
        refine MV.aload_n dX12_lawLine_25 rfl ?_
        refine MV.iconst (v := 1) dX12_lawLine_26 (by decide) ?_
        refine MV.cV1 yoX12_wrong ml_X12_211 im_X12_wrong se_X12_wrong dX12_lawLine_27 rfl (Nat.le_of_ble_eq_true rfl) (by omega) rfl (Nat.le_of_ble_eq_true rfl) (wrong0_M (by omega) ht.2.2.2.2.1) ?_
        rintro _ _ ⟨rfl, rfl⟩
        refine MV.aload_n dX12_lawLine_30 rfl ?_
        refine MV.getf 26 fl_X12_177 dX12_lawLine_31 (by decide) rfl ?_
        refine MV.bipush (v := 8) dX12_lawLine_34 (by decide) ?_
        refine MV.isub dX12_lawLine_36 ?_
        refine MV.istore_n dX12_lawLine_37 (by decide) rfl ?_
        refine MV.aload_n dX12_lawLine_38 rfl ?_
        refine MV.getf 27 fl_X12_202 dX12_lawLine_39 (by decide) rfl ?_
        refine MV.if_ne 65 dX12_lawLine_42 (by decide) (fun _ => ?_) (fun z => absurd z (show ¬ (1 : Int32) = 0 by decide))
        refine MV.aload_n dX12_lawLine_65 rfl ?_
        refine MV.getf 27 fl_X12_202 dX12_lawLine_66 (by decide) rfl ?_
        refine MV.if_eq 73 dX12_lawLine_69 (by decide) (fun z => absurd z (show ¬ (1 : Int32) = 0 by decide)) (fun _ => ?_)
        refine MV.vret dX12_lawLine_72 rfl ?_
        exact ⟨rfl, hf.w, h21, Or.inl (Or.inl (FAILS.w hRf (by decide) ht.1))⟩
