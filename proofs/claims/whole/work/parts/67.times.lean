/-! The model: times, lightings -/
/-- by how few lightings, as the class has it (0: not) and as the model has it (-1: not) -/
def relE (f g : Nat → Int32) : Prop := ∀ k, k < 61 → g k = (if f k = 0 then -1 else f k) ∧ okN (f k) 5
def frE (s s' : St) : Prop := s'.1 = s.1 ∧ ∀ k, k ≠ 50 → s'.2.1 k = s.2.1 k
theorem frE.rf {s : St} : frE s s := ⟨rfl, fun _ _ => rfl⟩
theorem frE.tr {s1 s2 s3 : St} (h : frE s1 s2) (k : frE s2 s3) : frE s1 s3 := ⟨k.1.trans h.1, fun j hj => (k.2 j hj).trans (h.2 j hj)⟩
theorem frE.a {s : St} {i : Nat} {v : Int32} : frE s (mA s 50 i v) := ⟨rfl, fun k hk => mA_ne hk⟩
theorem frE.X {s s' : St} (h : frE s s') : frX s s' := ⟨fun j _ _ _ => by rw [h.1], fun k _ h2 _ => h.2 k (by omega), fun k i h1 h2 _ => by rw [h.2 k (by omega)], fun k i h1 h2 _ => by rw [h.2 k (by omega)]⟩
theorem m1_ne {x : Int32} (h : okN x 5) : ¬ x = -1 := by
  intro q
  rw [h.1] at q
  have := nI_pos' (n := nat x) (by have := h.2; omega)
  rw [q] at this
  exact absurd this (by decide)
theorem relE.note {f g : Nat → Int32} {t : Int32} {e : Nat} (h : relE f g) (he : e < 5) (he0 : 0 < e) (h1 : ¬ t < 1) (h2 : ¬ 60 < t) (h3 : g (nat t) = -1 ∨ nI e < g (nat t)) : relE (noteF f t (nI e)) (upd g (nat t) (nI e)) := by
  obtain ⟨q1, q2⟩ := in60 h1 h2
  obtain ⟨r1, r2⟩ := h (nat t) q2
  have hc : f (nat t) = 0 ∨ nI e < f (nat t) := by
    by_cases z : f (nat t) = 0
    · exact Or.inl z
    · rw [if_neg z] at r1
      rcases h3 with h3 | h3
      · exact absurd (r1.symm.trans h3) (m1_ne r2)
      · exact Or.inr (by rw [← r1]; exact h3)
  unfold noteF
  rw [if_pos ⟨h1, h2, hc⟩]
  intro k hk
  unfold upd
  by_cases e1 : k = nat t
  · rw [if_pos e1, if_pos e1, if_neg (nI_ne0 he0 (by omega))]
    exact ⟨rfl, okN.of rfl he (by decide)⟩
  · rw [if_neg e1, if_neg e1]
    exact h k hk
theorem relE.skip {f g : Nat → Int32} {t : Int32} {e : Nat} (h : relE f g) (h3 : t < 1 ∨ 60 < t ∨ (¬ g (nat t) = -1 ∧ g (nat t) ≤ nI e)) : relE (noteF f t (nI e)) g := by
  unfold noteF
  by_cases hc : ¬ t < 1 ∧ ¬ 60 < t ∧ (f (nat t) = 0 ∨ nI e < f (nat t))
  · exfalso
    obtain ⟨q1, q2⟩ := in60 hc.1 hc.2.1
    obtain ⟨r1, r2⟩ := h (nat t) q2
    rcases h3 with h3 | h3 | h3
    · exact hc.1 h3
    · exact hc.2.1 h3
    · rcases hc.2.2 with z | z
      · rw [if_pos z] at r1; exact h3.1 r1
      · by_cases z0 : f (nat t) = 0
        · rw [if_pos z0] at r1; exact h3.1 r1
        · rw [if_neg z0] at r1
          rw [r1] at h3
          exact Int32.lt_irrefl (Int32.lt_of_le_of_lt h3.2 z)
  · rw [if_neg hc]; exact h
theorem timeF_nI {l e : Nat} (hl : l ≤ 60) (he : 1 ≤ e) (he2 : e ≤ 2) : timeF (nI l) (nI e) = nI ((l + e - 1) / e) := by
  unfold timeF
  rw [if_neg (nI_ne0 (by omega) (by omega)), nI_add, show (1 : Int32) = nI 1 by decide, nI_subI (by omega), pk_div (by omega) (by omega) (by omega)]
set_option maxRecDepth 100000 in
set_option maxHeartbeats 1000000 in
theorem tells_M {d n0 a : Nat} {κ : Kd} {h0 : Hp} (hd : 1 ≤ d) {s : St} {f : Nat → Int32} (hE : relE f (s.2.1 50)) {t : Int32} {e : Nat} (he : e < 5) (he0 : 0 < e) : MV MX12_tells (d, 0, 0, n0, κ) a h0 s 0 [some (.ref a), some (.int (t)), some (.int (nI e))] [] (fun v s' => v = none ∧ relE (noteF f t (nI e)) (s'.2.1 50) ∧ frE s s') := by
  refine MV.iload_n dX12_tells_0 rfl ?_
  refine MV.iconst (v := 1) dX12_tells_1 (by decide) ?_
  refine MV.icmp_lt 38 dX12_tells_2 (by decide) (fun c2 => ?_) (fun c2 => ?_)
  · skip
    have hs : t < 1 ∨ 60 < t ∨ (¬ s.2.1 50 (nat t) = -1 ∧ s.2.1 50 (nat t) ≤ nI e) := Or.inl c2
    refine MV.vret dX12_tells_38 rfl ?_
    first
    | exact ⟨rfl, hE.skip hs, frE.rf⟩
    | exact ⟨rfl, hn, frE.a⟩
  · skip
    refine MV.iload_n dX12_tells_5 rfl ?_
    refine MV.bipush (v := 60) dX12_tells_6 (by decide) ?_
    refine MV.icmp_gt 38 dX12_tells_8 (by decide) (fun c8 => ?_) (fun c8 => ?_)
    · skip
      have hs : t < 1 ∨ 60 < t ∨ (¬ s.2.1 50 (nat t) = -1 ∧ s.2.1 50 (nat t) ≤ nI e) := Or.inr (Or.inl c8)
      refine MV.vret dX12_tells_38 rfl ?_
      first
      | exact ⟨rfl, hE.skip hs, frE.rf⟩
      | exact ⟨rfl, hn, frE.a⟩
    · skip
      obtain ⟨q1, q2⟩ := in60 c2 c8
      refine MV.aload_n dX12_tells_11 rfl ?_
      refine MV.getf 50 fl_X12_105 dX12_tells_12 (by decide) rfl ?_
      refine MV.iload_n dX12_tells_15 rfl ?_
      refine MV.ald C12_in50 dX12_tells_16 (q1) (q2) (by decide) ?_
      refine MV.iconst (v := (-1)) dX12_tells_17 (by decide) ?_
      refine MV.icmp_eq 31 dX12_tells_18 (by decide) (fun c18 => ?_) (fun c18 => ?_)
      · skip
        have hn : relE (noteF f t (nI e)) ((mA s 50 (nat t) (nI e)).2.1 50) := hE.note he he0 c2 c8 (Or.inl c18)
        refine MV.aload_n dX12_tells_31 rfl ?_
        refine MV.getf 50 fl_X12_105 dX12_tells_32 (by decide) rfl ?_
        refine MV.iload_n dX12_tells_35 rfl ?_
        refine MV.iload_n dX12_tells_36 rfl ?_
        refine MV.ast C12_in50 dX12_tells_37 (q1) (q2) (by decide) ?_
        refine MV.vret dX12_tells_38 rfl ?_
        first
        | exact ⟨rfl, hE.skip hs, frE.rf⟩
        | exact ⟨rfl, hn, frE.a⟩
      · skip
        refine MV.iload_n dX12_tells_21 rfl ?_
        refine MV.aload_n dX12_tells_22 rfl ?_
        refine MV.getf 50 fl_X12_105 dX12_tells_23 (by decide) rfl ?_
        refine MV.iload_n dX12_tells_26 rfl ?_
        refine MV.ald C12_in50 dX12_tells_27 (q1) (q2) (by decide) ?_
        refine MV.icmp_ge 38 dX12_tells_28 (by decide) (fun c28 => ?_) (fun c28 => ?_)
        · skip
          have hs : t < 1 ∨ 60 < t ∨ (¬ s.2.1 50 (nat t) = -1 ∧ s.2.1 50 (nat t) ≤ nI e) := Or.inr (Or.inr ⟨c18, c28⟩)
          refine MV.vret dX12_tells_38 rfl ?_
          first
          | exact ⟨rfl, hE.skip hs, frE.rf⟩
          | exact ⟨rfl, hn, frE.a⟩
        · skip
          have hn : relE (noteF f t (nI e)) ((mA s 50 (nat t) (nI e)).2.1 50) := hE.note he he0 c2 c8 (Or.inr (Int32.not_le.mp c28))
          refine MV.aload_n dX12_tells_31 rfl ?_
          refine MV.getf 50 fl_X12_105 dX12_tells_32 (by decide) rfl ?_
          refine MV.iload_n dX12_tells_35 rfl ?_
          refine MV.iload_n dX12_tells_36 rfl ?_
          refine MV.ast C12_in50 dX12_tells_37 (q1) (q2) (by decide) ?_
          refine MV.vret dX12_tells_38 rfl ?_
          first
          | exact ⟨rfl, hE.skip hs, frE.rf⟩
          | exact ⟨rfl, hn, frE.a⟩
set_option maxRecDepth 100000 in
set_option maxHeartbeats 1000000 in
theorem hoursOf_V {d n0 : Nat} {κ : Kd} (hd : 1 ≤ d) {h : Hp} {x e : Int32} (he : ¬ e = 0) : V MX12_hoursOf (d, 0, 0, n0, κ) 0 0 h 0 [some (.int (x)), some (.int (e))] [] (Rd h (.int (timeF x e))) := by
  refine V.iload_n dX12_hoursOf_0 rfl ?_
  refine V.iload_n dX12_hoursOf_1 rfl ?_
  refine V.iadd dX12_hoursOf_2 ?_
  refine V.iconst (v := 1) dX12_hoursOf_3 (by decide) ?_
  refine V.isub dX12_hoursOf_4 ?_
  refine V.iload_n dX12_hoursOf_5 rfl ?_
  refine V.idiv dX12_hoursOf_6 (he) ?_
  refine V.iret dX12_hoursOf_7 rfl ?_
  exact ⟨by unfold timeF; rw [if_neg he], rfl⟩
set_option maxRecDepth 100000 in
set_option maxHeartbeats 1000000 in
theorem tellsOn0_M {d n0 a : Nat} {κ : Kd} {h0 : Hp} (hd : 2 ≤ d) {s : St} {f : Nat → Int32} (hE : relE f (s.2.1 50)) {t l : Int32} {i b : Nat} (hi : 1 ≤ i) (hi2 : i ≤ 2) (hl : l = nI b - nI 0 * t) : MV MX12_tellsOn (d, 0, 0, n0, κ) a h0 s 0 [some (.ref a), some (.int (t)), some (.int (nI i)), some (.int (nI b)), some (.int (nI 0)), none, none] [] (fun v s' => v = none ∧ relE (burnOnF (noteF f t (nI i + nI 0)) t (nI i) (nI b - nI 0 * t) 0) (s'.2.1 50) ∧ frE s s') := by
  refine MV.aload_n dX12_tellsOn_0 rfl ?_
  refine MV.iload_n dX12_tellsOn_1 rfl ?_
  refine MV.iload_n dX12_tellsOn_2 rfl ?_
  refine MV.iload dX12_tellsOn_3 rfl ?_
  refine MV.iadd dX12_tellsOn_5 ?_
  refine MV.eqi (nI (i + 0)) (nI_add _ _) ?_
  refine MV.cV2 yoX12_tells ml_X12_461 im_X12_tells se_X12_tells dX12_tellsOn_6 rfl (Nat.le_of_ble_eq_true rfl) (by omega) rfl (Nat.le_of_ble_eq_true rfl) (tells_M (t := t) (e := i + 0) (by omega) hE (by omega) (by omega)) ?_
  rintro _ s1 ⟨rfl, hE1, f1⟩
  refine MV.iload_n dX12_tellsOn_9 rfl ?_
  refine MV.iload dX12_tellsOn_10 rfl ?_
  refine MV.iload_n dX12_tellsOn_12 rfl ?_
  refine MV.imul dX12_tellsOn_13 ?_
  refine MV.isub dX12_tellsOn_14 ?_
  refine MV.eqi l hl.symm ?_
  refine MV.istore dX12_tellsOn_15 (by decide) rfl ?_
  refine MV.iload dX12_tellsOn_17 rfl ?_
  refine MV.if_gt 23 dX12_tellsOn_19 (by decide) (fun c19 => ?_) (fun c19 => ?_)
  · skip
    have hB : burnOnF (noteF f t (nI i + nI 0)) t (nI i) (nI b - nI 0 * t) 0 = noteF (noteF (noteF f t (nI (i + 0))) (t + timeF l (nI 1)) (nI (i + 1))) (t + timeF l (nI 2)) (nI (i + 2)) := by
      unfold burnOnF
      rw [← hl, if_neg (fun z => absurd c19 (Int32.not_lt.mpr z)), if_pos (by decide)]
      simp only [nI_add]
    refine MV.iconst (v := 1) dX12_tellsOn_23 (by decide) ?_
    refine MV.iload dX12_tellsOn_24 rfl ?_
    refine MV.mmax ml_X12_459 st_J9_max_7cf53 ini_J9 co_J9_max_7cf53 dX12_tellsOn_26 (by omega) (Nat.le_of_ble_eq_true rfl) ?_
    refine MV.istore dX12_tellsOn_29 (by decide) rfl ?_
    refine MV.weak [some (.ref a), some (.int t), some (.int (nI i)), some (.int (nI b)), some (.int (nI 0)), some (.int l), some (.int (nI 1))] (by simp [leL, sto1, sto2, k2c]; try decide) ?_
    refine MV.iload dX12_tellsOn_31 rfl ?_
    refine MV.iconst (v := 2) dX12_tellsOn_33 (by decide) ?_
    refine MV.icmp_gt 60 dX12_tellsOn_34 (by decide) (fun z => absurd z (by decide)) (fun _ => ?_)
    refine MV.aload_n dX12_tellsOn_37 rfl ?_
    refine MV.iload_n dX12_tellsOn_38 rfl ?_
    refine MV.iload dX12_tellsOn_39 rfl ?_
    refine MV.iload dX12_tellsOn_41 rfl ?_
    refine MV.cS2 yoX12_hoursOf ml_X12_464 st_X12_hoursOf dX12_tellsOn_43 (Nat.le_of_ble_eq_true rfl) (by omega) rfl (Nat.le_of_ble_eq_true rfl) (fun h H => hoursOf_V (x := l) (e := nI 1) (by omega) (by decide)) ?_
    refine MV.iadd dX12_tellsOn_46 ?_
    refine MV.iload_n dX12_tellsOn_47 rfl ?_
    refine MV.iload dX12_tellsOn_48 rfl ?_
    refine MV.iadd dX12_tellsOn_50 ?_
    refine MV.eqi (nI (i + 1)) (nI_add _ _) ?_
    refine MV.cV2 yoX12_tells ml_X12_461 im_X12_tells se_X12_tells dX12_tellsOn_51 rfl (Nat.le_of_ble_eq_true rfl) (by omega) rfl (Nat.le_of_ble_eq_true rfl) (tells_M (t := t + timeF l (nI 1)) (e := i + 1) (by omega) hE1 (by omega) (by omega)) ?_
    rintro _ s2 ⟨rfl, hE2, f2⟩
    refine MV.iinc (v := 1) dX12_tellsOn_54 rfl (by decide) (by decide) rfl ?_
    refine MV.goto 31 dX12_tellsOn_57 (by decide) ?_
    refine MV.weak [some (.ref a), some (.int t), some (.int (nI i)), some (.int (nI b)), some (.int (nI 0)), some (.int l), some (.int (nI 2))] (by simp [leL, sto1, sto2, k2c, nI_1]; try decide) ?_
    refine MV.iload dX12_tellsOn_31 rfl ?_
    refine MV.iconst (v := 2) dX12_tellsOn_33 (by decide) ?_
    refine MV.icmp_gt 60 dX12_tellsOn_34 (by decide) (fun z => absurd z (by decide)) (fun _ => ?_)
    refine MV.aload_n dX12_tellsOn_37 rfl ?_
    refine MV.iload_n dX12_tellsOn_38 rfl ?_
    refine MV.iload dX12_tellsOn_39 rfl ?_
    refine MV.iload dX12_tellsOn_41 rfl ?_
    refine MV.cS2 yoX12_hoursOf ml_X12_464 st_X12_hoursOf dX12_tellsOn_43 (Nat.le_of_ble_eq_true rfl) (by omega) rfl (Nat.le_of_ble_eq_true rfl) (fun h H => hoursOf_V (x := l) (e := nI 2) (by omega) (by decide)) ?_
    refine MV.iadd dX12_tellsOn_46 ?_
    refine MV.iload_n dX12_tellsOn_47 rfl ?_
    refine MV.iload dX12_tellsOn_48 rfl ?_
    refine MV.iadd dX12_tellsOn_50 ?_
    refine MV.eqi (nI (i + 2)) (nI_add _ _) ?_
    refine MV.cV2 yoX12_tells ml_X12_461 im_X12_tells se_X12_tells dX12_tellsOn_51 rfl (Nat.le_of_ble_eq_true rfl) (by omega) rfl (Nat.le_of_ble_eq_true rfl) (tells_M (t := t + timeF l (nI 2)) (e := i + 2) (by omega) hE2 (by omega) (by omega)) ?_
    rintro _ s3 ⟨rfl, hE3, f3⟩
    refine MV.iinc (v := 1) dX12_tellsOn_54 rfl (by decide) (by decide) rfl ?_
    refine MV.goto 31 dX12_tellsOn_57 (by decide) ?_
    refine MV.weak [some (.ref a), some (.int t), some (.int (nI i)), some (.int (nI b)), some (.int (nI 0)), some (.int l), some (.int (nI 3))] (by simp [leL, sto1, sto2, k2c, nI_1]; try decide) ?_
    refine MV.iload dX12_tellsOn_31 rfl ?_
    refine MV.iconst (v := 2) dX12_tellsOn_33 (by decide) ?_
    refine MV.icmp_gt 60 dX12_tellsOn_34 (by decide) (fun _ => ?_) (fun z => absurd (by decide) z)
    refine MV.vret dX12_tellsOn_60 rfl ?_
    exact ⟨rfl, by rw [hB]; exact hE3, (f1.tr f2).tr f3⟩
  · skip
    have hB : burnOnF (noteF f t (nI i + nI 0)) t (nI i) (nI b - nI 0 * t) 0 = noteF f t (nI (i + 0)) := by
      unfold burnOnF
      rw [← hl, if_pos (Int32.not_lt.mp c19), nI_add]
    refine MV.vret dX12_tellsOn_22 rfl ?_
    exact ⟨rfl, by rw [hB]; exact hE1, f1⟩
set_option maxRecDepth 100000 in
set_option maxHeartbeats 1000000 in
theorem tellsOn1_M {d n0 a : Nat} {κ : Kd} {h0 : Hp} (hd : 2 ≤ d) {s : St} {f : Nat → Int32} (hE : relE f (s.2.1 50)) {t l : Int32} {i b : Nat} (hi : 1 ≤ i) (hi2 : i ≤ 2) (hl : l = nI b - nI 1 * t) : MV MX12_tellsOn (d, 0, 0, n0, κ) a h0 s 0 [some (.ref a), some (.int (t)), some (.int (nI i)), some (.int (nI b)), some (.int (nI 1)), none, none] [] (fun v s' => v = none ∧ relE (burnOnF (noteF f t (nI i + nI 1)) t (nI i) (nI b - nI 1 * t) 1) (s'.2.1 50) ∧ frE s s') := by
  refine MV.aload_n dX12_tellsOn_0 rfl ?_
  refine MV.iload_n dX12_tellsOn_1 rfl ?_
  refine MV.iload_n dX12_tellsOn_2 rfl ?_
  refine MV.iload dX12_tellsOn_3 rfl ?_
  refine MV.iadd dX12_tellsOn_5 ?_
  refine MV.eqi (nI (i + 1)) (nI_add _ _) ?_
  refine MV.cV2 yoX12_tells ml_X12_461 im_X12_tells se_X12_tells dX12_tellsOn_6 rfl (Nat.le_of_ble_eq_true rfl) (by omega) rfl (Nat.le_of_ble_eq_true rfl) (tells_M (t := t) (e := i + 1) (by omega) hE (by omega) (by omega)) ?_
  rintro _ s1 ⟨rfl, hE1, f1⟩
  refine MV.iload_n dX12_tellsOn_9 rfl ?_
  refine MV.iload dX12_tellsOn_10 rfl ?_
  refine MV.iload_n dX12_tellsOn_12 rfl ?_
  refine MV.imul dX12_tellsOn_13 ?_
  refine MV.isub dX12_tellsOn_14 ?_
  refine MV.eqi l hl.symm ?_
  refine MV.istore dX12_tellsOn_15 (by decide) rfl ?_
  refine MV.iload dX12_tellsOn_17 rfl ?_
  refine MV.if_gt 23 dX12_tellsOn_19 (by decide) (fun c19 => ?_) (fun c19 => ?_)
  · skip
    have hB : burnOnF (noteF f t (nI i + nI 1)) t (nI i) (nI b - nI 1 * t) 1 = noteF (noteF (noteF f t (nI (i + 1))) (t + timeF l (nI 1)) (nI (i + 1))) (t + timeF l (nI 2)) (nI (i + 2)) := by
      unfold burnOnF
      rw [← hl, if_neg (fun z => absurd c19 (Int32.not_lt.mpr z)), if_pos (by decide)]
      simp only [nI_add]
    refine MV.iconst (v := 1) dX12_tellsOn_23 (by decide) ?_
    refine MV.iload dX12_tellsOn_24 rfl ?_
    refine MV.mmax ml_X12_459 st_J9_max_7cf53 ini_J9 co_J9_max_7cf53 dX12_tellsOn_26 (by omega) (Nat.le_of_ble_eq_true rfl) ?_
    refine MV.istore dX12_tellsOn_29 (by decide) rfl ?_
    refine MV.weak [some (.ref a), some (.int t), some (.int (nI i)), some (.int (nI b)), some (.int (nI 1)), some (.int l), some (.int (nI 1))] (by simp [leL, sto1, sto2, k2c]; try decide) ?_
    refine MV.iload dX12_tellsOn_31 rfl ?_
    refine MV.iconst (v := 2) dX12_tellsOn_33 (by decide) ?_
    refine MV.icmp_gt 60 dX12_tellsOn_34 (by decide) (fun z => absurd z (by decide)) (fun _ => ?_)
    refine MV.aload_n dX12_tellsOn_37 rfl ?_
    refine MV.iload_n dX12_tellsOn_38 rfl ?_
    refine MV.iload dX12_tellsOn_39 rfl ?_
    refine MV.iload dX12_tellsOn_41 rfl ?_
    refine MV.cS2 yoX12_hoursOf ml_X12_464 st_X12_hoursOf dX12_tellsOn_43 (Nat.le_of_ble_eq_true rfl) (by omega) rfl (Nat.le_of_ble_eq_true rfl) (fun h H => hoursOf_V (x := l) (e := nI 1) (by omega) (by decide)) ?_
    refine MV.iadd dX12_tellsOn_46 ?_
    refine MV.iload_n dX12_tellsOn_47 rfl ?_
    refine MV.iload dX12_tellsOn_48 rfl ?_
    refine MV.iadd dX12_tellsOn_50 ?_
    refine MV.eqi (nI (i + 1)) (nI_add _ _) ?_
    refine MV.cV2 yoX12_tells ml_X12_461 im_X12_tells se_X12_tells dX12_tellsOn_51 rfl (Nat.le_of_ble_eq_true rfl) (by omega) rfl (Nat.le_of_ble_eq_true rfl) (tells_M (t := t + timeF l (nI 1)) (e := i + 1) (by omega) hE1 (by omega) (by omega)) ?_
    rintro _ s2 ⟨rfl, hE2, f2⟩
    refine MV.iinc (v := 1) dX12_tellsOn_54 rfl (by decide) (by decide) rfl ?_
    refine MV.goto 31 dX12_tellsOn_57 (by decide) ?_
    refine MV.weak [some (.ref a), some (.int t), some (.int (nI i)), some (.int (nI b)), some (.int (nI 1)), some (.int l), some (.int (nI 2))] (by simp [leL, sto1, sto2, k2c, nI_1]; try decide) ?_
    refine MV.iload dX12_tellsOn_31 rfl ?_
    refine MV.iconst (v := 2) dX12_tellsOn_33 (by decide) ?_
    refine MV.icmp_gt 60 dX12_tellsOn_34 (by decide) (fun z => absurd z (by decide)) (fun _ => ?_)
    refine MV.aload_n dX12_tellsOn_37 rfl ?_
    refine MV.iload_n dX12_tellsOn_38 rfl ?_
    refine MV.iload dX12_tellsOn_39 rfl ?_
    refine MV.iload dX12_tellsOn_41 rfl ?_
    refine MV.cS2 yoX12_hoursOf ml_X12_464 st_X12_hoursOf dX12_tellsOn_43 (Nat.le_of_ble_eq_true rfl) (by omega) rfl (Nat.le_of_ble_eq_true rfl) (fun h H => hoursOf_V (x := l) (e := nI 2) (by omega) (by decide)) ?_
    refine MV.iadd dX12_tellsOn_46 ?_
    refine MV.iload_n dX12_tellsOn_47 rfl ?_
    refine MV.iload dX12_tellsOn_48 rfl ?_
    refine MV.iadd dX12_tellsOn_50 ?_
    refine MV.eqi (nI (i + 2)) (nI_add _ _) ?_
    refine MV.cV2 yoX12_tells ml_X12_461 im_X12_tells se_X12_tells dX12_tellsOn_51 rfl (Nat.le_of_ble_eq_true rfl) (by omega) rfl (Nat.le_of_ble_eq_true rfl) (tells_M (t := t + timeF l (nI 2)) (e := i + 2) (by omega) hE2 (by omega) (by omega)) ?_
    rintro _ s3 ⟨rfl, hE3, f3⟩
    refine MV.iinc (v := 1) dX12_tellsOn_54 rfl (by decide) (by decide) rfl ?_
    refine MV.goto 31 dX12_tellsOn_57 (by decide) ?_
    refine MV.weak [some (.ref a), some (.int t), some (.int (nI i)), some (.int (nI b)), some (.int (nI 1)), some (.int l), some (.int (nI 3))] (by simp [leL, sto1, sto2, k2c, nI_1]; try decide) ?_
    refine MV.iload dX12_tellsOn_31 rfl ?_
    refine MV.iconst (v := 2) dX12_tellsOn_33 (by decide) ?_
    refine MV.icmp_gt 60 dX12_tellsOn_34 (by decide) (fun _ => ?_) (fun z => absurd (by decide) z)
    refine MV.vret dX12_tellsOn_60 rfl ?_
    exact ⟨rfl, by rw [hB]; exact hE3, (f1.tr f2).tr f3⟩
  · skip
    have hB : burnOnF (noteF f t (nI i + nI 1)) t (nI i) (nI b - nI 1 * t) 1 = noteF f t (nI (i + 1)) := by
      unfold burnOnF
      rw [← hl, if_pos (Int32.not_lt.mp c19), nI_add]
    refine MV.vret dX12_tellsOn_22 rfl ?_
    exact ⟨rfl, by rw [hB]; exact hE1, f1⟩
set_option maxRecDepth 100000 in
set_option maxHeartbeats 1000000 in
theorem tellsOn2_M {d n0 a : Nat} {κ : Kd} {h0 : Hp} (hd : 2 ≤ d) {s : St} {f : Nat → Int32} (hE : relE f (s.2.1 50)) {t l : Int32} {i b : Nat} (hi : 1 ≤ i) (hi2 : i ≤ 2) (hl : l = nI b - nI 2 * t) : MV MX12_tellsOn (d, 0, 0, n0, κ) a h0 s 0 [some (.ref a), some (.int (t)), some (.int (nI i)), some (.int (nI b)), some (.int (nI 2)), none, none] [] (fun v s' => v = none ∧ relE (burnOnF (noteF f t (nI i + nI 2)) t (nI i) (nI b - nI 2 * t) 2) (s'.2.1 50) ∧ frE s s') := by
  refine MV.aload_n dX12_tellsOn_0 rfl ?_
  refine MV.iload_n dX12_tellsOn_1 rfl ?_
  refine MV.iload_n dX12_tellsOn_2 rfl ?_
  refine MV.iload dX12_tellsOn_3 rfl ?_
  refine MV.iadd dX12_tellsOn_5 ?_
  refine MV.eqi (nI (i + 2)) (nI_add _ _) ?_
  refine MV.cV2 yoX12_tells ml_X12_461 im_X12_tells se_X12_tells dX12_tellsOn_6 rfl (Nat.le_of_ble_eq_true rfl) (by omega) rfl (Nat.le_of_ble_eq_true rfl) (tells_M (t := t) (e := i + 2) (by omega) hE (by omega) (by omega)) ?_
  rintro _ s1 ⟨rfl, hE1, f1⟩
  refine MV.iload_n dX12_tellsOn_9 rfl ?_
  refine MV.iload dX12_tellsOn_10 rfl ?_
  refine MV.iload_n dX12_tellsOn_12 rfl ?_
  refine MV.imul dX12_tellsOn_13 ?_
  refine MV.isub dX12_tellsOn_14 ?_
  refine MV.eqi l hl.symm ?_
  refine MV.istore dX12_tellsOn_15 (by decide) rfl ?_
  refine MV.iload dX12_tellsOn_17 rfl ?_
  refine MV.if_gt 23 dX12_tellsOn_19 (by decide) (fun c19 => ?_) (fun c19 => ?_)
  · skip
    have hB : burnOnF (noteF f t (nI i + nI 2)) t (nI i) (nI b - nI 2 * t) 2 = noteF (noteF f t (nI (i + 2))) (t + timeF l (nI 2)) (nI (i + 2)) := by
      unfold burnOnF
      rw [← hl, if_neg (fun z => absurd c19 (Int32.not_lt.mpr z)), if_neg (by decide)]
      simp only [nI_add]
    refine MV.iconst (v := 1) dX12_tellsOn_23 (by decide) ?_
    refine MV.iload dX12_tellsOn_24 rfl ?_
    refine MV.mmax ml_X12_459 st_J9_max_7cf53 ini_J9 co_J9_max_7cf53 dX12_tellsOn_26 (by omega) (Nat.le_of_ble_eq_true rfl) ?_
    refine MV.istore dX12_tellsOn_29 (by decide) rfl ?_
    refine MV.weak [some (.ref a), some (.int t), some (.int (nI i)), some (.int (nI b)), some (.int (nI 2)), some (.int l), some (.int (nI 2))] (by simp [leL, sto1, sto2, k2c]; try decide) ?_
    refine MV.iload dX12_tellsOn_31 rfl ?_
    refine MV.iconst (v := 2) dX12_tellsOn_33 (by decide) ?_
    refine MV.icmp_gt 60 dX12_tellsOn_34 (by decide) (fun z => absurd z (by decide)) (fun _ => ?_)
    refine MV.aload_n dX12_tellsOn_37 rfl ?_
    refine MV.iload_n dX12_tellsOn_38 rfl ?_
    refine MV.iload dX12_tellsOn_39 rfl ?_
    refine MV.iload dX12_tellsOn_41 rfl ?_
    refine MV.cS2 yoX12_hoursOf ml_X12_464 st_X12_hoursOf dX12_tellsOn_43 (Nat.le_of_ble_eq_true rfl) (by omega) rfl (Nat.le_of_ble_eq_true rfl) (fun h H => hoursOf_V (x := l) (e := nI 2) (by omega) (by decide)) ?_
    refine MV.iadd dX12_tellsOn_46 ?_
    refine MV.iload_n dX12_tellsOn_47 rfl ?_
    refine MV.iload dX12_tellsOn_48 rfl ?_
    refine MV.iadd dX12_tellsOn_50 ?_
    refine MV.eqi (nI (i + 2)) (nI_add _ _) ?_
    refine MV.cV2 yoX12_tells ml_X12_461 im_X12_tells se_X12_tells dX12_tellsOn_51 rfl (Nat.le_of_ble_eq_true rfl) (by omega) rfl (Nat.le_of_ble_eq_true rfl) (tells_M (t := t + timeF l (nI 2)) (e := i + 2) (by omega) hE1 (by omega) (by omega)) ?_
    rintro _ s2 ⟨rfl, hE2, f2⟩
    refine MV.iinc (v := 1) dX12_tellsOn_54 rfl (by decide) (by decide) rfl ?_
    refine MV.goto 31 dX12_tellsOn_57 (by decide) ?_
    refine MV.weak [some (.ref a), some (.int t), some (.int (nI i)), some (.int (nI b)), some (.int (nI 2)), some (.int l), some (.int (nI 3))] (by simp [leL, sto1, sto2, k2c, nI_1]; try decide) ?_
    refine MV.iload dX12_tellsOn_31 rfl ?_
    refine MV.iconst (v := 2) dX12_tellsOn_33 (by decide) ?_
    refine MV.icmp_gt 60 dX12_tellsOn_34 (by decide) (fun _ => ?_) (fun z => absurd (by decide) z)
    refine MV.vret dX12_tellsOn_60 rfl ?_
    exact ⟨rfl, by rw [hB]; exact hE2, f1.tr f2⟩
  · skip
    have hB : burnOnF (noteF f t (nI i + nI 2)) t (nI i) (nI b - nI 2 * t) 2 = noteF f t (nI (i + 2)) := by
      unfold burnOnF
      rw [← hl, if_pos (Int32.not_lt.mp c19), nI_add]
    refine MV.vret dX12_tellsOn_22 rfl ?_
    exact ⟨rfl, by rw [hB]; exact hE1, f1⟩
set_option maxRecDepth 100000 in
set_option maxHeartbeats 1000000 in
theorem cell00_M {d n0 a : Nat} {κ : Kd} {h0 : Hp} (hd : 3 ≤ d) {s : St} {f : Nat → Int32} (hE : relE f (s.2.1 50)) {P : Option Value → St → Prop} {A B : Nat} (hA60 : A ≤ 60) (hB60 : B ≤ 60) (kk : ∀ s' : St, relE (cellF (nI A) (nI B) f 0 0) (s'.2.1 50) → frE s s' → MV MX12_lays (d, 0, 0, n0, κ) a h0 s' 171 [some (.ref a), none, none, some (.int (nI A)), some (.int (nI B)), some (.int (nI 0)), some (.int (nI 0)), none, none] [] P) : MV MX12_lays (d, 0, 0, n0, κ) a h0 s 57 [some (.ref a), none, none, some (.int (nI A)), some (.int (nI B)), some (.int (nI 0)), some (.int (nI 0)), none, none] [] P := by
  refine MV.iload dX12_lays_57 rfl ?_
  refine MV.if_le 66 dX12_lays_59 (by decide) (fun _ => ?_) (fun z => absurd (show nI 0 ≤ 0 by decide) z)
  refine MV.iload dX12_lays_66 rfl ?_
  refine MV.if_le 79 dX12_lays_68 (by decide) (fun _ => ?_) (fun z => absurd (show nI 0 ≤ 0 by decide) z)
  refine MV.iload dX12_lays_79 rfl ?_
  refine MV.if_ne 90 dX12_lays_81 (by decide) (fun z => absurd (show nI 0 = 0 by decide) z) (fun _ => ?_)
  refine MV.sipush (v := nI 999) dX12_lays_84 (by decide) ?_
  refine MV.goto 96 dX12_lays_87 (by decide) ?_
  refine MV.istore dX12_lays_96 (by decide) rfl ?_
  refine MV.iload dX12_lays_98 rfl ?_
  refine MV.if_ne 109 dX12_lays_100 (by decide) (fun z => absurd (show nI 0 = 0 by decide) z) (fun _ => ?_)
  refine MV.sipush (v := nI 999) dX12_lays_103 (by decide) ?_
  refine MV.goto 116 dX12_lays_106 (by decide) ?_
  refine MV.istore dX12_lays_116 (by decide) rfl ?_
  refine MV.iload dX12_lays_118 rfl ?_
  refine MV.sipush (v := 999) dX12_lays_120 (by decide) ?_
  refine MV.icmp_ge 145 dX12_lays_123 (by decide) (fun _ => ?_) (fun z => absurd (show (999 : Int32) ≤ nI 999 by decide) z)
  refine MV.iload dX12_lays_145 rfl ?_
  refine MV.sipush (v := 999) dX12_lays_147 (by decide) ?_
  refine MV.icmp_ge 171 dX12_lays_150 (by decide) (fun _ => ?_) (fun z => absurd (show (999 : Int32) ≤ nI 999 by decide) z)
  refine MV.weak [some (.ref a), none, none, some (.int (nI A)), some (.int (nI B)), some (.int (nI 0)), some (.int (nI 0)), none, none] (by simp [leL, sto1, sto2, k2c]) ?_
  have e1 : timeF (nI A) (nI 0) = 0 := by unfold timeF; rw [if_pos (by decide)]
  have e2 : timeF (nI B) (nI 0) = 0 := by unfold timeF; rw [if_pos (by decide)]
  have hcan : canF (nI A) 0 = true ∧ canF (nI B) 0 = true := ⟨by unfold canF; rw [decide_eq_true (show nI 0 = 0 by decide), Bool.or_true], by unfold canF; rw [decide_eq_true (show nI 0 = 0 by decide), Bool.or_true]⟩
  have hS1 : burnSo1 f (nI A) 0 (nI B) 0 = f := by unfold burnSo1; rw [e1, e2, if_neg (fun z => absurd z.1 (by decide))]
  have hcell : cellF (nI A) (nI B) f 0 0 = f := by unfold cellF burnSoF; rw [if_pos hcan, hS1]; unfold burnSo2; rw [e1, e2, if_neg (fun z => absurd z.1 (by decide))]
  exact kk _ (by rw [hcell]; exact hE) frE.rf
set_option maxRecDepth 100000 in
set_option maxHeartbeats 1000000 in
theorem cell01_M {d n0 a : Nat} {κ : Kd} {h0 : Hp} (hd : 3 ≤ d) {s : St} {f : Nat → Int32} (hE : relE f (s.2.1 50)) {P : Option Value → St → Prop} {A B : Nat} (hA60 : A ≤ 60) (hB60 : B ≤ 60) (kk : ∀ s' : St, relE (cellF (nI A) (nI B) f 0 1) (s'.2.1 50) → frE s s' → MV MX12_lays (d, 0, 0, n0, κ) a h0 s' 171 [some (.ref a), none, none, some (.int (nI A)), some (.int (nI B)), some (.int (nI 0)), some (.int (nI 1)), none, none] [] P) : MV MX12_lays (d, 0, 0, n0, κ) a h0 s 57 [some (.ref a), none, none, some (.int (nI A)), some (.int (nI B)), some (.int (nI 0)), some (.int (nI 1)), none, none] [] P := by
  refine MV.iload dX12_lays_57 rfl ?_
  refine MV.if_le 66 dX12_lays_59 (by decide) (fun _ => ?_) (fun z => absurd (show nI 0 ≤ 0 by decide) z)
  refine MV.iload dX12_lays_66 rfl ?_
  refine MV.if_le 79 dX12_lays_68 (by decide) (fun z => absurd z (show ¬ nI 1 ≤ 0 by decide)) (fun _ => ?_)
  refine MV.iload dX12_lays_71 rfl ?_
  refine MV.if_ne 79 dX12_lays_73 (by decide) (fun c73 => ?_) (fun c73 => ?_)
  · skip
    have hB : 1 ≤ B := by
      rcases Nat.eq_zero_or_pos B with z | z
      · exact absurd (show nI B = 0 by rw [z]; rfl) c73
      · exact z
    refine MV.iload dX12_lays_79 rfl ?_
    refine MV.if_ne 90 dX12_lays_81 (by decide) (fun z => absurd (show nI 0 = 0 by decide) z) (fun _ => ?_)
    refine MV.sipush (v := nI 999) dX12_lays_84 (by decide) ?_
    refine MV.goto 96 dX12_lays_87 (by decide) ?_
    refine MV.istore dX12_lays_96 (by decide) rfl ?_
    refine MV.iload dX12_lays_98 rfl ?_
    refine MV.if_ne 109 dX12_lays_100 (by decide) (fun _ => ?_) (fun z => absurd z (show ¬ nI 1 = 0 by decide))
    refine MV.iload dX12_lays_109 rfl ?_
    refine MV.iload dX12_lays_111 rfl ?_
    refine MV.cS2 yoX12_hoursOf ml_X12_464 st_X12_hoursOf dX12_lays_113 (Nat.le_of_ble_eq_true rfl) (by omega) rfl (Nat.le_of_ble_eq_true rfl) (fun h H => hoursOf_V (e := nI 1) (by omega) (by decide)) ?_
    refine MV.eqi (nI ((B + 1 - 1) / 1)) (timeF_nI (by omega) (by decide) (by decide)) ?_
    skip
    refine MV.istore dX12_lays_116 (by decide) rfl ?_
    refine MV.iload dX12_lays_118 rfl ?_
    refine MV.sipush (v := 999) dX12_lays_120 (by decide) ?_
    refine MV.icmp_ge 145 dX12_lays_123 (by decide) (fun _ => ?_) (fun z => absurd (show (999 : Int32) ≤ nI 999 by decide) z)
    refine MV.iload dX12_lays_145 rfl ?_
    refine MV.sipush (v := 999) dX12_lays_147 (by decide) ?_
    refine MV.icmp_ge 171 dX12_lays_150 (by decide) (fun z => absurd z (nI_ge (b := 999) (by omega) (by decide))) (fun _ => ?_)
    refine MV.iload dX12_lays_153 rfl ?_
    refine MV.iload dX12_lays_155 rfl ?_
    refine MV.icmp_gt 171 dX12_lays_157 (by decide) (fun z => absurd z (nI_nlt (a := 999) (by omega) (by decide))) (fun _ => ?_)
    refine MV.aload_n dX12_lays_160 rfl ?_
    refine MV.iload dX12_lays_161 rfl ?_
    refine MV.iload dX12_lays_163 rfl ?_
    refine MV.iload_n dX12_lays_165 rfl ?_
    refine MV.iload dX12_lays_166 rfl ?_
    refine MV.cV4 yoX12_tellsOn ml_X12_467 im_X12_tellsOn se_X12_tellsOn dX12_lays_168 rfl (Nat.le_of_ble_eq_true rfl) (by omega) rfl (Nat.le_of_ble_eq_true rfl) (tellsOn0_M (t := nI ((B + 1 - 1) / 1)) (i := 1) (b := A) (by omega) hE (by decide) (by decide) rfl) ?_
    rintro _ s2 ⟨rfl, hE2, f2⟩
    rw [show nI 1 + nI 0 = nI 0 + nI 1 by decide] at hE2
    refine MV.weak [some (.ref a), none, none, some (.int (nI A)), some (.int (nI B)), some (.int (nI 0)), some (.int (nI 1)), none, none] (by simp [leL, sto1, sto2, k2c]) ?_
    have e1 : timeF (nI A) (nI 0) = 0 := by unfold timeF; rw [if_pos (by decide)]
    have e2 : timeF (nI B) (nI 1) = nI ((B + 1 - 1) / 1) := timeF_nI (by omega) (by decide) (by decide)
    have hcan : canF (nI A) 0 = true ∧ canF (nI B) 1 = true := ⟨by unfold canF; rw [decide_eq_true (show nI 0 = 0 by decide), Bool.or_true], by unfold canF; rw [decide_eq_true (show 0 < nI B from nI_lt (a := 0) (by omega) (by omega)), Bool.true_or]⟩
    have hS1 : burnSo1 f (nI A) 0 (nI B) 1 = f := by unfold burnSo1; rw [e1, e2, if_neg (fun z => absurd z.1 (by decide))]
    have hcell : cellF (nI A) (nI B) f 0 1 = burnOnF (noteF (f) (nI ((B + 1 - 1) / 1)) (nI 0 + nI 1)) (nI ((B + 1 - 1) / 1)) (nI 1) (nI A - nI 0 * nI ((B + 1 - 1) / 1)) 0 := by unfold cellF burnSoF; rw [if_pos hcan, hS1]; unfold burnSo2; rw [e1, e2, if_pos ⟨nI_lt (a := 0) (by omega) (by omega), Or.inl rfl⟩]
    exact kk _ (by rw [hcell]; exact hE2) (f2)
  · skip
    have hz : nI B = 0 := c73
    refine MV.goto 171 dX12_lays_76 (by decide) ?_
    refine MV.weak [some (.ref a), none, none, some (.int (nI A)), some (.int (nI B)), some (.int (nI 0)), some (.int (nI 1)), none, none] (by simp [leL, sto1, sto2, k2c]) ?_
    have hcell : cellF (nI A) (nI B) f 0 1 = f := by
      unfold cellF canF
      rw [if_neg]
      rw [hz]
      intro z
      exact absurd z.2 (by decide)
    exact kk _ (by rw [hcell]; exact hE) frE.rf
set_option maxRecDepth 100000 in
set_option maxHeartbeats 1000000 in
theorem cell02_M {d n0 a : Nat} {κ : Kd} {h0 : Hp} (hd : 3 ≤ d) {s : St} {f : Nat → Int32} (hE : relE f (s.2.1 50)) {P : Option Value → St → Prop} {A B : Nat} (hA60 : A ≤ 60) (hB60 : B ≤ 60) (kk : ∀ s' : St, relE (cellF (nI A) (nI B) f 0 2) (s'.2.1 50) → frE s s' → MV MX12_lays (d, 0, 0, n0, κ) a h0 s' 171 [some (.ref a), none, none, some (.int (nI A)), some (.int (nI B)), some (.int (nI 0)), some (.int (nI 2)), none, none] [] P) : MV MX12_lays (d, 0, 0, n0, κ) a h0 s 57 [some (.ref a), none, none, some (.int (nI A)), some (.int (nI B)), some (.int (nI 0)), some (.int (nI 2)), none, none] [] P := by
  refine MV.iload dX12_lays_57 rfl ?_
  refine MV.if_le 66 dX12_lays_59 (by decide) (fun _ => ?_) (fun z => absurd (show nI 0 ≤ 0 by decide) z)
  refine MV.iload dX12_lays_66 rfl ?_
  refine MV.if_le 79 dX12_lays_68 (by decide) (fun z => absurd z (show ¬ nI 2 ≤ 0 by decide)) (fun _ => ?_)
  refine MV.iload dX12_lays_71 rfl ?_
  refine MV.if_ne 79 dX12_lays_73 (by decide) (fun c73 => ?_) (fun c73 => ?_)
  · skip
    have hB : 1 ≤ B := by
      rcases Nat.eq_zero_or_pos B with z | z
      · exact absurd (show nI B = 0 by rw [z]; rfl) c73
      · exact z
    refine MV.iload dX12_lays_79 rfl ?_
    refine MV.if_ne 90 dX12_lays_81 (by decide) (fun z => absurd (show nI 0 = 0 by decide) z) (fun _ => ?_)
    refine MV.sipush (v := nI 999) dX12_lays_84 (by decide) ?_
    refine MV.goto 96 dX12_lays_87 (by decide) ?_
    refine MV.istore dX12_lays_96 (by decide) rfl ?_
    refine MV.iload dX12_lays_98 rfl ?_
    refine MV.if_ne 109 dX12_lays_100 (by decide) (fun _ => ?_) (fun z => absurd z (show ¬ nI 2 = 0 by decide))
    refine MV.iload dX12_lays_109 rfl ?_
    refine MV.iload dX12_lays_111 rfl ?_
    refine MV.cS2 yoX12_hoursOf ml_X12_464 st_X12_hoursOf dX12_lays_113 (Nat.le_of_ble_eq_true rfl) (by omega) rfl (Nat.le_of_ble_eq_true rfl) (fun h H => hoursOf_V (e := nI 2) (by omega) (by decide)) ?_
    refine MV.eqi (nI ((B + 2 - 1) / 2)) (timeF_nI (by omega) (by decide) (by decide)) ?_
    skip
    refine MV.istore dX12_lays_116 (by decide) rfl ?_
    refine MV.iload dX12_lays_118 rfl ?_
    refine MV.sipush (v := 999) dX12_lays_120 (by decide) ?_
    refine MV.icmp_ge 145 dX12_lays_123 (by decide) (fun _ => ?_) (fun z => absurd (show (999 : Int32) ≤ nI 999 by decide) z)
    refine MV.iload dX12_lays_145 rfl ?_
    refine MV.sipush (v := 999) dX12_lays_147 (by decide) ?_
    refine MV.icmp_ge 171 dX12_lays_150 (by decide) (fun z => absurd z (nI_ge (b := 999) (by omega) (by decide))) (fun _ => ?_)
    refine MV.iload dX12_lays_153 rfl ?_
    refine MV.iload dX12_lays_155 rfl ?_
    refine MV.icmp_gt 171 dX12_lays_157 (by decide) (fun z => absurd z (nI_nlt (a := 999) (by omega) (by decide))) (fun _ => ?_)
    refine MV.aload_n dX12_lays_160 rfl ?_
    refine MV.iload dX12_lays_161 rfl ?_
    refine MV.iload dX12_lays_163 rfl ?_
    refine MV.iload_n dX12_lays_165 rfl ?_
    refine MV.iload dX12_lays_166 rfl ?_
    refine MV.cV4 yoX12_tellsOn ml_X12_467 im_X12_tellsOn se_X12_tellsOn dX12_lays_168 rfl (Nat.le_of_ble_eq_true rfl) (by omega) rfl (Nat.le_of_ble_eq_true rfl) (tellsOn0_M (t := nI ((B + 2 - 1) / 2)) (i := 2) (b := A) (by omega) hE (by decide) (by decide) rfl) ?_
    rintro _ s2 ⟨rfl, hE2, f2⟩
    rw [show nI 2 + nI 0 = nI 0 + nI 2 by decide] at hE2
    refine MV.weak [some (.ref a), none, none, some (.int (nI A)), some (.int (nI B)), some (.int (nI 0)), some (.int (nI 2)), none, none] (by simp [leL, sto1, sto2, k2c]) ?_
    have e1 : timeF (nI A) (nI 0) = 0 := by unfold timeF; rw [if_pos (by decide)]
    have e2 : timeF (nI B) (nI 2) = nI ((B + 2 - 1) / 2) := timeF_nI (by omega) (by decide) (by decide)
    have hcan : canF (nI A) 0 = true ∧ canF (nI B) 2 = true := ⟨by unfold canF; rw [decide_eq_true (show nI 0 = 0 by decide), Bool.or_true], by unfold canF; rw [decide_eq_true (show 0 < nI B from nI_lt (a := 0) (by omega) (by omega)), Bool.true_or]⟩
    have hS1 : burnSo1 f (nI A) 0 (nI B) 2 = f := by unfold burnSo1; rw [e1, e2, if_neg (fun z => absurd z.1 (by decide))]
    have hcell : cellF (nI A) (nI B) f 0 2 = burnOnF (noteF (f) (nI ((B + 2 - 1) / 2)) (nI 0 + nI 2)) (nI ((B + 2 - 1) / 2)) (nI 2) (nI A - nI 0 * nI ((B + 2 - 1) / 2)) 0 := by unfold cellF burnSoF; rw [if_pos hcan, hS1]; unfold burnSo2; rw [e1, e2, if_pos ⟨nI_lt (a := 0) (by omega) (by omega), Or.inl rfl⟩]
    exact kk _ (by rw [hcell]; exact hE2) (f2)
  · skip
    have hz : nI B = 0 := c73
    refine MV.goto 171 dX12_lays_76 (by decide) ?_
    refine MV.weak [some (.ref a), none, none, some (.int (nI A)), some (.int (nI B)), some (.int (nI 0)), some (.int (nI 2)), none, none] (by simp [leL, sto1, sto2, k2c]) ?_
    have hcell : cellF (nI A) (nI B) f 0 2 = f := by
      unfold cellF canF
      rw [if_neg]
      rw [hz]
      intro z
      exact absurd z.2 (by decide)
    exact kk _ (by rw [hcell]; exact hE) frE.rf
set_option maxRecDepth 100000 in
set_option maxHeartbeats 1000000 in
theorem cell10_M {d n0 a : Nat} {κ : Kd} {h0 : Hp} (hd : 3 ≤ d) {s : St} {f : Nat → Int32} (hE : relE f (s.2.1 50)) {P : Option Value → St → Prop} {A B : Nat} (hA60 : A ≤ 60) (hB60 : B ≤ 60) (kk : ∀ s' : St, relE (cellF (nI A) (nI B) f 1 0) (s'.2.1 50) → frE s s' → MV MX12_lays (d, 0, 0, n0, κ) a h0 s' 171 [some (.ref a), none, none, some (.int (nI A)), some (.int (nI B)), some (.int (nI 1)), some (.int (nI 0)), none, none] [] P) : MV MX12_lays (d, 0, 0, n0, κ) a h0 s 57 [some (.ref a), none, none, some (.int (nI A)), some (.int (nI B)), some (.int (nI 1)), some (.int (nI 0)), none, none] [] P := by
  refine MV.iload dX12_lays_57 rfl ?_
  refine MV.if_le 66 dX12_lays_59 (by decide) (fun z => absurd z (show ¬ nI 1 ≤ 0 by decide)) (fun _ => ?_)
  refine MV.iload_n dX12_lays_62 rfl ?_
  refine MV.if_eq 171 dX12_lays_63 (by decide) (fun c63 => ?_) (fun c63 => ?_)
  · skip
    have hz : nI A = 0 := c63
    refine MV.weak [some (.ref a), none, none, some (.int (nI A)), some (.int (nI B)), some (.int (nI 1)), some (.int (nI 0)), none, none] (by simp [leL, sto1, sto2, k2c]) ?_
    have hcell : cellF (nI A) (nI B) f 1 0 = f := by
      unfold cellF canF
      rw [if_neg]
      rw [hz]
      intro z
      exact absurd z.1 (by decide)
    exact kk _ (by rw [hcell]; exact hE) frE.rf
  · skip
    have hA : 1 ≤ A := by
      rcases Nat.eq_zero_or_pos A with z | z
      · exact absurd (show nI A = 0 by rw [z]; rfl) c63
      · exact z
    refine MV.iload dX12_lays_66 rfl ?_
    refine MV.if_le 79 dX12_lays_68 (by decide) (fun _ => ?_) (fun z => absurd (show nI 0 ≤ 0 by decide) z)
    refine MV.iload dX12_lays_79 rfl ?_
    refine MV.if_ne 90 dX12_lays_81 (by decide) (fun _ => ?_) (fun z => absurd z (show ¬ nI 1 = 0 by decide))
    refine MV.iload_n dX12_lays_90 rfl ?_
    refine MV.iload dX12_lays_91 rfl ?_
    refine MV.cS2 yoX12_hoursOf ml_X12_464 st_X12_hoursOf dX12_lays_93 (Nat.le_of_ble_eq_true rfl) (by omega) rfl (Nat.le_of_ble_eq_true rfl) (fun h H => hoursOf_V (e := nI 1) (by omega) (by decide)) ?_
    refine MV.eqi (nI ((A + 1 - 1) / 1)) (timeF_nI (by omega) (by decide) (by decide)) ?_
    skip
    refine MV.istore dX12_lays_96 (by decide) rfl ?_
    refine MV.iload dX12_lays_98 rfl ?_
    refine MV.if_ne 109 dX12_lays_100 (by decide) (fun z => absurd (show nI 0 = 0 by decide) z) (fun _ => ?_)
    refine MV.sipush (v := nI 999) dX12_lays_103 (by decide) ?_
    refine MV.goto 116 dX12_lays_106 (by decide) ?_
    refine MV.istore dX12_lays_116 (by decide) rfl ?_
    refine MV.iload dX12_lays_118 rfl ?_
    refine MV.sipush (v := 999) dX12_lays_120 (by decide) ?_
    refine MV.icmp_ge 145 dX12_lays_123 (by decide) (fun z => absurd z (nI_ge (b := 999) (by omega) (by decide))) (fun _ => ?_)
    refine MV.iload dX12_lays_126 rfl ?_
    refine MV.iload dX12_lays_128 rfl ?_
    refine MV.icmp_gt 145 dX12_lays_130 (by decide) (fun z => absurd z (nI_nlt (a := 999) (by omega) (by decide))) (fun _ => ?_)
    refine MV.aload_n dX12_lays_133 rfl ?_
    refine MV.iload dX12_lays_134 rfl ?_
    refine MV.iload dX12_lays_136 rfl ?_
    refine MV.iload dX12_lays_138 rfl ?_
    refine MV.iload dX12_lays_140 rfl ?_
    refine MV.cV4 yoX12_tellsOn ml_X12_467 im_X12_tellsOn se_X12_tellsOn dX12_lays_142 rfl (Nat.le_of_ble_eq_true rfl) (by omega) rfl (Nat.le_of_ble_eq_true rfl) (tellsOn0_M (t := nI ((A + 1 - 1) / 1)) (i := 1) (b := B) (by omega) hE (by decide) (by decide) rfl) ?_
    rintro _ s1 ⟨rfl, hE1, f1⟩
    refine MV.iload dX12_lays_145 rfl ?_
    refine MV.sipush (v := 999) dX12_lays_147 (by decide) ?_
    refine MV.icmp_ge 171 dX12_lays_150 (by decide) (fun _ => ?_) (fun z => absurd (show (999 : Int32) ≤ nI 999 by decide) z)
    refine MV.weak [some (.ref a), none, none, some (.int (nI A)), some (.int (nI B)), some (.int (nI 1)), some (.int (nI 0)), none, none] (by simp [leL, sto1, sto2, k2c]) ?_
    have e1 : timeF (nI A) (nI 1) = nI ((A + 1 - 1) / 1) := timeF_nI (by omega) (by decide) (by decide)
    have e2 : timeF (nI B) (nI 0) = 0 := by unfold timeF; rw [if_pos (by decide)]
    have hcan : canF (nI A) 1 = true ∧ canF (nI B) 0 = true := ⟨by unfold canF; rw [decide_eq_true (show 0 < nI A from nI_lt (a := 0) (by omega) (by omega)), Bool.true_or], by unfold canF; rw [decide_eq_true (show nI 0 = 0 by decide), Bool.or_true]⟩
    have hS1 : burnSo1 f (nI A) 1 (nI B) 0 = burnOnF (noteF f (nI ((A + 1 - 1) / 1)) (nI 1 + nI 0)) (nI ((A + 1 - 1) / 1)) (nI 1) (nI B - nI 0 * nI ((A + 1 - 1) / 1)) 0 := by unfold burnSo1; rw [e1, e2, if_pos ⟨nI_lt (a := 0) (by omega) (by omega), Or.inl rfl⟩]
    have hcell : cellF (nI A) (nI B) f 1 0 = burnOnF (noteF f (nI ((A + 1 - 1) / 1)) (nI 1 + nI 0)) (nI ((A + 1 - 1) / 1)) (nI 1) (nI B - nI 0 * nI ((A + 1 - 1) / 1)) 0 := by unfold cellF burnSoF; rw [if_pos hcan, hS1]; unfold burnSo2; rw [e1, e2, if_neg (fun z => absurd z.1 (by decide))]
    exact kk _ (by rw [hcell]; exact hE1) f1
set_option maxRecDepth 100000 in
set_option maxHeartbeats 1000000 in
theorem cell11_M {d n0 a : Nat} {κ : Kd} {h0 : Hp} (hd : 3 ≤ d) {s : St} {f : Nat → Int32} (hE : relE f (s.2.1 50)) {P : Option Value → St → Prop} {A B : Nat} (hA60 : A ≤ 60) (hB60 : B ≤ 60) (kk : ∀ s' : St, relE (cellF (nI A) (nI B) f 1 1) (s'.2.1 50) → frE s s' → MV MX12_lays (d, 0, 0, n0, κ) a h0 s' 171 [some (.ref a), none, none, some (.int (nI A)), some (.int (nI B)), some (.int (nI 1)), some (.int (nI 1)), none, none] [] P) : MV MX12_lays (d, 0, 0, n0, κ) a h0 s 57 [some (.ref a), none, none, some (.int (nI A)), some (.int (nI B)), some (.int (nI 1)), some (.int (nI 1)), none, none] [] P := by
  refine MV.iload dX12_lays_57 rfl ?_
  refine MV.if_le 66 dX12_lays_59 (by decide) (fun z => absurd z (show ¬ nI 1 ≤ 0 by decide)) (fun _ => ?_)
  refine MV.iload_n dX12_lays_62 rfl ?_
  refine MV.if_eq 171 dX12_lays_63 (by decide) (fun c63 => ?_) (fun c63 => ?_)
  · skip
    have hz : nI A = 0 := c63
    refine MV.weak [some (.ref a), none, none, some (.int (nI A)), some (.int (nI B)), some (.int (nI 1)), some (.int (nI 1)), none, none] (by simp [leL, sto1, sto2, k2c]) ?_
    have hcell : cellF (nI A) (nI B) f 1 1 = f := by
      unfold cellF canF
      rw [if_neg]
      rw [hz]
      intro z
      exact absurd z.1 (by decide)
    exact kk _ (by rw [hcell]; exact hE) frE.rf
  · skip
    have hA : 1 ≤ A := by
      rcases Nat.eq_zero_or_pos A with z | z
      · exact absurd (show nI A = 0 by rw [z]; rfl) c63
      · exact z
    refine MV.iload dX12_lays_66 rfl ?_
    refine MV.if_le 79 dX12_lays_68 (by decide) (fun z => absurd z (show ¬ nI 1 ≤ 0 by decide)) (fun _ => ?_)
    refine MV.iload dX12_lays_71 rfl ?_
    refine MV.if_ne 79 dX12_lays_73 (by decide) (fun c73 => ?_) (fun c73 => ?_)
    · skip
      have hB : 1 ≤ B := by
        rcases Nat.eq_zero_or_pos B with z | z
        · exact absurd (show nI B = 0 by rw [z]; rfl) c73
        · exact z
      refine MV.iload dX12_lays_79 rfl ?_
      refine MV.if_ne 90 dX12_lays_81 (by decide) (fun _ => ?_) (fun z => absurd z (show ¬ nI 1 = 0 by decide))
      refine MV.iload_n dX12_lays_90 rfl ?_
      refine MV.iload dX12_lays_91 rfl ?_
      refine MV.cS2 yoX12_hoursOf ml_X12_464 st_X12_hoursOf dX12_lays_93 (Nat.le_of_ble_eq_true rfl) (by omega) rfl (Nat.le_of_ble_eq_true rfl) (fun h H => hoursOf_V (e := nI 1) (by omega) (by decide)) ?_
      refine MV.eqi (nI ((A + 1 - 1) / 1)) (timeF_nI (by omega) (by decide) (by decide)) ?_
      skip
      refine MV.istore dX12_lays_96 (by decide) rfl ?_
      refine MV.iload dX12_lays_98 rfl ?_
      refine MV.if_ne 109 dX12_lays_100 (by decide) (fun _ => ?_) (fun z => absurd z (show ¬ nI 1 = 0 by decide))
      refine MV.iload dX12_lays_109 rfl ?_
      refine MV.iload dX12_lays_111 rfl ?_
      refine MV.cS2 yoX12_hoursOf ml_X12_464 st_X12_hoursOf dX12_lays_113 (Nat.le_of_ble_eq_true rfl) (by omega) rfl (Nat.le_of_ble_eq_true rfl) (fun h H => hoursOf_V (e := nI 1) (by omega) (by decide)) ?_
      refine MV.eqi (nI ((B + 1 - 1) / 1)) (timeF_nI (by omega) (by decide) (by decide)) ?_
      skip
      refine MV.istore dX12_lays_116 (by decide) rfl ?_
      refine MV.iload dX12_lays_118 rfl ?_
      refine MV.sipush (v := 999) dX12_lays_120 (by decide) ?_
      refine MV.icmp_ge 145 dX12_lays_123 (by decide) (fun z => absurd z (nI_ge (b := 999) (by omega) (by decide))) (fun _ => ?_)
      refine MV.iload dX12_lays_126 rfl ?_
      refine MV.iload dX12_lays_128 rfl ?_
      refine MV.icmp_gt 145 dX12_lays_130 (by decide) (fun c130 => ?_) (fun c130 => ?_)
      · skip
        refine MV.iload dX12_lays_145 rfl ?_
        refine MV.sipush (v := 999) dX12_lays_147 (by decide) ?_
        refine MV.icmp_ge 171 dX12_lays_150 (by decide) (fun z => absurd z (nI_ge (b := 999) (by omega) (by decide))) (fun _ => ?_)
        refine MV.iload dX12_lays_153 rfl ?_
        refine MV.iload dX12_lays_155 rfl ?_
        refine MV.icmp_gt 171 dX12_lays_157 (by decide) (fun c157 => ?_) (fun c157 => ?_)
        · skip
          refine MV.weak [some (.ref a), none, none, some (.int (nI A)), some (.int (nI B)), some (.int (nI 1)), some (.int (nI 1)), none, none] (by simp [leL, sto1, sto2, k2c]) ?_
          have e1 : timeF (nI A) (nI 1) = nI ((A + 1 - 1) / 1) := timeF_nI (by omega) (by decide) (by decide)
          have e2 : timeF (nI B) (nI 1) = nI ((B + 1 - 1) / 1) := timeF_nI (by omega) (by decide) (by decide)
          have hcan : canF (nI A) 1 = true ∧ canF (nI B) 1 = true := ⟨by unfold canF; rw [decide_eq_true (show 0 < nI A from nI_lt (a := 0) (by omega) (by omega)), Bool.true_or], by unfold canF; rw [decide_eq_true (show 0 < nI B from nI_lt (a := 0) (by omega) (by omega)), Bool.true_or]⟩
          exact absurd (Int32.lt_trans c130 c157) Int32.lt_irrefl
        · skip
          refine MV.aload_n dX12_lays_160 rfl ?_
          refine MV.iload dX12_lays_161 rfl ?_
          refine MV.iload dX12_lays_163 rfl ?_
          refine MV.iload_n dX12_lays_165 rfl ?_
          refine MV.iload dX12_lays_166 rfl ?_
          refine MV.cV4 yoX12_tellsOn ml_X12_467 im_X12_tellsOn se_X12_tellsOn dX12_lays_168 rfl (Nat.le_of_ble_eq_true rfl) (by omega) rfl (Nat.le_of_ble_eq_true rfl) (tellsOn1_M (t := nI ((B + 1 - 1) / 1)) (i := 1) (b := A) (by omega) hE (by decide) (by decide) rfl) ?_
          rintro _ s2 ⟨rfl, hE2, f2⟩
          rw [show nI 1 + nI 1 = nI 1 + nI 1 by decide] at hE2
          refine MV.weak [some (.ref a), none, none, some (.int (nI A)), some (.int (nI B)), some (.int (nI 1)), some (.int (nI 1)), none, none] (by simp [leL, sto1, sto2, k2c]) ?_
          have e1 : timeF (nI A) (nI 1) = nI ((A + 1 - 1) / 1) := timeF_nI (by omega) (by decide) (by decide)
          have e2 : timeF (nI B) (nI 1) = nI ((B + 1 - 1) / 1) := timeF_nI (by omega) (by decide) (by decide)
          have hcan : canF (nI A) 1 = true ∧ canF (nI B) 1 = true := ⟨by unfold canF; rw [decide_eq_true (show 0 < nI A from nI_lt (a := 0) (by omega) (by omega)), Bool.true_or], by unfold canF; rw [decide_eq_true (show 0 < nI B from nI_lt (a := 0) (by omega) (by omega)), Bool.true_or]⟩
          have hS1 : burnSo1 f (nI A) 1 (nI B) 1 = f := by unfold burnSo1; rw [e1, e2, if_neg (fun z => z.2.elim (fun q => nI_ne0 (by omega) (by omega) q) (fun q => absurd c130 (Int32.not_lt.mpr q)))]
          have hcell : cellF (nI A) (nI B) f 1 1 = burnOnF (noteF (f) (nI ((B + 1 - 1) / 1)) (nI 1 + nI 1)) (nI ((B + 1 - 1) / 1)) (nI 1) (nI A - nI 1 * nI ((B + 1 - 1) / 1)) 1 := by unfold cellF burnSoF; rw [if_pos hcan, hS1]; unfold burnSo2; rw [e1, e2, if_pos ⟨nI_lt (a := 0) (by omega) (by omega), Or.inr (Int32.not_lt.mp c157)⟩]
          exact kk _ (by rw [hcell]; exact hE2) (f2)
      · skip
        refine MV.aload_n dX12_lays_133 rfl ?_
        refine MV.iload dX12_lays_134 rfl ?_
        refine MV.iload dX12_lays_136 rfl ?_
        refine MV.iload dX12_lays_138 rfl ?_
        refine MV.iload dX12_lays_140 rfl ?_
        refine MV.cV4 yoX12_tellsOn ml_X12_467 im_X12_tellsOn se_X12_tellsOn dX12_lays_142 rfl (Nat.le_of_ble_eq_true rfl) (by omega) rfl (Nat.le_of_ble_eq_true rfl) (tellsOn1_M (t := nI ((A + 1 - 1) / 1)) (i := 1) (b := B) (by omega) hE (by decide) (by decide) rfl) ?_
        rintro _ s1 ⟨rfl, hE1, f1⟩
        refine MV.iload dX12_lays_145 rfl ?_
        refine MV.sipush (v := 999) dX12_lays_147 (by decide) ?_
        refine MV.icmp_ge 171 dX12_lays_150 (by decide) (fun z => absurd z (nI_ge (b := 999) (by omega) (by decide))) (fun _ => ?_)
        refine MV.iload dX12_lays_153 rfl ?_
        refine MV.iload dX12_lays_155 rfl ?_
        refine MV.icmp_gt 171 dX12_lays_157 (by decide) (fun c157 => ?_) (fun c157 => ?_)
        · skip
          refine MV.weak [some (.ref a), none, none, some (.int (nI A)), some (.int (nI B)), some (.int (nI 1)), some (.int (nI 1)), none, none] (by simp [leL, sto1, sto2, k2c]) ?_
          have e1 : timeF (nI A) (nI 1) = nI ((A + 1 - 1) / 1) := timeF_nI (by omega) (by decide) (by decide)
          have e2 : timeF (nI B) (nI 1) = nI ((B + 1 - 1) / 1) := timeF_nI (by omega) (by decide) (by decide)
          have hcan : canF (nI A) 1 = true ∧ canF (nI B) 1 = true := ⟨by unfold canF; rw [decide_eq_true (show 0 < nI A from nI_lt (a := 0) (by omega) (by omega)), Bool.true_or], by unfold canF; rw [decide_eq_true (show 0 < nI B from nI_lt (a := 0) (by omega) (by omega)), Bool.true_or]⟩
          have hS1 : burnSo1 f (nI A) 1 (nI B) 1 = burnOnF (noteF f (nI ((A + 1 - 1) / 1)) (nI 1 + nI 1)) (nI ((A + 1 - 1) / 1)) (nI 1) (nI B - nI 1 * nI ((A + 1 - 1) / 1)) 1 := by unfold burnSo1; rw [e1, e2, if_pos ⟨nI_lt (a := 0) (by omega) (by omega), Or.inr (Int32.not_lt.mp c130)⟩]
          have hcell : cellF (nI A) (nI B) f 1 1 = burnOnF (noteF f (nI ((A + 1 - 1) / 1)) (nI 1 + nI 1)) (nI ((A + 1 - 1) / 1)) (nI 1) (nI B - nI 1 * nI ((A + 1 - 1) / 1)) 1 := by unfold cellF burnSoF; rw [if_pos hcan, hS1]; unfold burnSo2; rw [e1, e2, if_neg (fun z => z.2.elim (fun q => nI_ne0 (by omega) (by omega) q) (fun q => absurd c157 (Int32.not_lt.mpr q)))]
          exact kk _ (by rw [hcell]; exact hE1) f1
        · skip
          refine MV.aload_n dX12_lays_160 rfl ?_
          refine MV.iload dX12_lays_161 rfl ?_
          refine MV.iload dX12_lays_163 rfl ?_
          refine MV.iload_n dX12_lays_165 rfl ?_
          refine MV.iload dX12_lays_166 rfl ?_
          refine MV.cV4 yoX12_tellsOn ml_X12_467 im_X12_tellsOn se_X12_tellsOn dX12_lays_168 rfl (Nat.le_of_ble_eq_true rfl) (by omega) rfl (Nat.le_of_ble_eq_true rfl) (tellsOn1_M (t := nI ((B + 1 - 1) / 1)) (i := 1) (b := A) (by omega) hE1 (by decide) (by decide) rfl) ?_
          rintro _ s2 ⟨rfl, hE2, f2⟩
          rw [show nI 1 + nI 1 = nI 1 + nI 1 by decide] at hE2
          refine MV.weak [some (.ref a), none, none, some (.int (nI A)), some (.int (nI B)), some (.int (nI 1)), some (.int (nI 1)), none, none] (by simp [leL, sto1, sto2, k2c]) ?_
          have e1 : timeF (nI A) (nI 1) = nI ((A + 1 - 1) / 1) := timeF_nI (by omega) (by decide) (by decide)
          have e2 : timeF (nI B) (nI 1) = nI ((B + 1 - 1) / 1) := timeF_nI (by omega) (by decide) (by decide)
          have hcan : canF (nI A) 1 = true ∧ canF (nI B) 1 = true := ⟨by unfold canF; rw [decide_eq_true (show 0 < nI A from nI_lt (a := 0) (by omega) (by omega)), Bool.true_or], by unfold canF; rw [decide_eq_true (show 0 < nI B from nI_lt (a := 0) (by omega) (by omega)), Bool.true_or]⟩
          have hS1 : burnSo1 f (nI A) 1 (nI B) 1 = burnOnF (noteF f (nI ((A + 1 - 1) / 1)) (nI 1 + nI 1)) (nI ((A + 1 - 1) / 1)) (nI 1) (nI B - nI 1 * nI ((A + 1 - 1) / 1)) 1 := by unfold burnSo1; rw [e1, e2, if_pos ⟨nI_lt (a := 0) (by omega) (by omega), Or.inr (Int32.not_lt.mp c130)⟩]
          have hcell : cellF (nI A) (nI B) f 1 1 = burnOnF (noteF (burnOnF (noteF f (nI ((A + 1 - 1) / 1)) (nI 1 + nI 1)) (nI ((A + 1 - 1) / 1)) (nI 1) (nI B - nI 1 * nI ((A + 1 - 1) / 1)) 1) (nI ((B + 1 - 1) / 1)) (nI 1 + nI 1)) (nI ((B + 1 - 1) / 1)) (nI 1) (nI A - nI 1 * nI ((B + 1 - 1) / 1)) 1 := by unfold cellF burnSoF; rw [if_pos hcan, hS1]; unfold burnSo2; rw [e1, e2, if_pos ⟨nI_lt (a := 0) (by omega) (by omega), Or.inr (Int32.not_lt.mp c157)⟩]
          exact kk _ (by rw [hcell]; exact hE2) (f1.tr f2)
    · skip
      have hz : nI B = 0 := c73
      refine MV.goto 171 dX12_lays_76 (by decide) ?_
      refine MV.weak [some (.ref a), none, none, some (.int (nI A)), some (.int (nI B)), some (.int (nI 1)), some (.int (nI 1)), none, none] (by simp [leL, sto1, sto2, k2c]) ?_
      have hcell : cellF (nI A) (nI B) f 1 1 = f := by
        unfold cellF canF
        rw [if_neg]
        rw [hz]
        intro z
        exact absurd z.2 (by decide)
      exact kk _ (by rw [hcell]; exact hE) frE.rf
set_option maxRecDepth 100000 in
set_option maxHeartbeats 1000000 in
theorem cell12_M {d n0 a : Nat} {κ : Kd} {h0 : Hp} (hd : 3 ≤ d) {s : St} {f : Nat → Int32} (hE : relE f (s.2.1 50)) {P : Option Value → St → Prop} {A B : Nat} (hA60 : A ≤ 60) (hB60 : B ≤ 60) (kk : ∀ s' : St, relE (cellF (nI A) (nI B) f 1 2) (s'.2.1 50) → frE s s' → MV MX12_lays (d, 0, 0, n0, κ) a h0 s' 171 [some (.ref a), none, none, some (.int (nI A)), some (.int (nI B)), some (.int (nI 1)), some (.int (nI 2)), none, none] [] P) : MV MX12_lays (d, 0, 0, n0, κ) a h0 s 57 [some (.ref a), none, none, some (.int (nI A)), some (.int (nI B)), some (.int (nI 1)), some (.int (nI 2)), none, none] [] P := by
  refine MV.iload dX12_lays_57 rfl ?_
  refine MV.if_le 66 dX12_lays_59 (by decide) (fun z => absurd z (show ¬ nI 1 ≤ 0 by decide)) (fun _ => ?_)
  refine MV.iload_n dX12_lays_62 rfl ?_
  refine MV.if_eq 171 dX12_lays_63 (by decide) (fun c63 => ?_) (fun c63 => ?_)
  · skip
    have hz : nI A = 0 := c63
    refine MV.weak [some (.ref a), none, none, some (.int (nI A)), some (.int (nI B)), some (.int (nI 1)), some (.int (nI 2)), none, none] (by simp [leL, sto1, sto2, k2c]) ?_
    have hcell : cellF (nI A) (nI B) f 1 2 = f := by
      unfold cellF canF
      rw [if_neg]
      rw [hz]
      intro z
      exact absurd z.1 (by decide)
    exact kk _ (by rw [hcell]; exact hE) frE.rf
  · skip
    have hA : 1 ≤ A := by
      rcases Nat.eq_zero_or_pos A with z | z
      · exact absurd (show nI A = 0 by rw [z]; rfl) c63
      · exact z
    refine MV.iload dX12_lays_66 rfl ?_
    refine MV.if_le 79 dX12_lays_68 (by decide) (fun z => absurd z (show ¬ nI 2 ≤ 0 by decide)) (fun _ => ?_)
    refine MV.iload dX12_lays_71 rfl ?_
    refine MV.if_ne 79 dX12_lays_73 (by decide) (fun c73 => ?_) (fun c73 => ?_)
    · skip
      have hB : 1 ≤ B := by
        rcases Nat.eq_zero_or_pos B with z | z
        · exact absurd (show nI B = 0 by rw [z]; rfl) c73
        · exact z
      refine MV.iload dX12_lays_79 rfl ?_
      refine MV.if_ne 90 dX12_lays_81 (by decide) (fun _ => ?_) (fun z => absurd z (show ¬ nI 1 = 0 by decide))
      refine MV.iload_n dX12_lays_90 rfl ?_
      refine MV.iload dX12_lays_91 rfl ?_
      refine MV.cS2 yoX12_hoursOf ml_X12_464 st_X12_hoursOf dX12_lays_93 (Nat.le_of_ble_eq_true rfl) (by omega) rfl (Nat.le_of_ble_eq_true rfl) (fun h H => hoursOf_V (e := nI 1) (by omega) (by decide)) ?_
      refine MV.eqi (nI ((A + 1 - 1) / 1)) (timeF_nI (by omega) (by decide) (by decide)) ?_
      skip
      refine MV.istore dX12_lays_96 (by decide) rfl ?_
      refine MV.iload dX12_lays_98 rfl ?_
      refine MV.if_ne 109 dX12_lays_100 (by decide) (fun _ => ?_) (fun z => absurd z (show ¬ nI 2 = 0 by decide))
      refine MV.iload dX12_lays_109 rfl ?_
      refine MV.iload dX12_lays_111 rfl ?_
      refine MV.cS2 yoX12_hoursOf ml_X12_464 st_X12_hoursOf dX12_lays_113 (Nat.le_of_ble_eq_true rfl) (by omega) rfl (Nat.le_of_ble_eq_true rfl) (fun h H => hoursOf_V (e := nI 2) (by omega) (by decide)) ?_
      refine MV.eqi (nI ((B + 2 - 1) / 2)) (timeF_nI (by omega) (by decide) (by decide)) ?_
      skip
      refine MV.istore dX12_lays_116 (by decide) rfl ?_
      refine MV.iload dX12_lays_118 rfl ?_
      refine MV.sipush (v := 999) dX12_lays_120 (by decide) ?_
      refine MV.icmp_ge 145 dX12_lays_123 (by decide) (fun z => absurd z (nI_ge (b := 999) (by omega) (by decide))) (fun _ => ?_)
      refine MV.iload dX12_lays_126 rfl ?_
      refine MV.iload dX12_lays_128 rfl ?_
      refine MV.icmp_gt 145 dX12_lays_130 (by decide) (fun c130 => ?_) (fun c130 => ?_)
      · skip
        refine MV.iload dX12_lays_145 rfl ?_
        refine MV.sipush (v := 999) dX12_lays_147 (by decide) ?_
        refine MV.icmp_ge 171 dX12_lays_150 (by decide) (fun z => absurd z (nI_ge (b := 999) (by omega) (by decide))) (fun _ => ?_)
        refine MV.iload dX12_lays_153 rfl ?_
        refine MV.iload dX12_lays_155 rfl ?_
        refine MV.icmp_gt 171 dX12_lays_157 (by decide) (fun c157 => ?_) (fun c157 => ?_)
        · skip
          refine MV.weak [some (.ref a), none, none, some (.int (nI A)), some (.int (nI B)), some (.int (nI 1)), some (.int (nI 2)), none, none] (by simp [leL, sto1, sto2, k2c]) ?_
          have e1 : timeF (nI A) (nI 1) = nI ((A + 1 - 1) / 1) := timeF_nI (by omega) (by decide) (by decide)
          have e2 : timeF (nI B) (nI 2) = nI ((B + 2 - 1) / 2) := timeF_nI (by omega) (by decide) (by decide)
          have hcan : canF (nI A) 1 = true ∧ canF (nI B) 2 = true := ⟨by unfold canF; rw [decide_eq_true (show 0 < nI A from nI_lt (a := 0) (by omega) (by omega)), Bool.true_or], by unfold canF; rw [decide_eq_true (show 0 < nI B from nI_lt (a := 0) (by omega) (by omega)), Bool.true_or]⟩
          exact absurd (Int32.lt_trans c130 c157) Int32.lt_irrefl
        · skip
          refine MV.aload_n dX12_lays_160 rfl ?_
          refine MV.iload dX12_lays_161 rfl ?_
          refine MV.iload dX12_lays_163 rfl ?_
          refine MV.iload_n dX12_lays_165 rfl ?_
          refine MV.iload dX12_lays_166 rfl ?_
          refine MV.cV4 yoX12_tellsOn ml_X12_467 im_X12_tellsOn se_X12_tellsOn dX12_lays_168 rfl (Nat.le_of_ble_eq_true rfl) (by omega) rfl (Nat.le_of_ble_eq_true rfl) (tellsOn1_M (t := nI ((B + 2 - 1) / 2)) (i := 2) (b := A) (by omega) hE (by decide) (by decide) rfl) ?_
          rintro _ s2 ⟨rfl, hE2, f2⟩
          rw [show nI 2 + nI 1 = nI 1 + nI 2 by decide] at hE2
          refine MV.weak [some (.ref a), none, none, some (.int (nI A)), some (.int (nI B)), some (.int (nI 1)), some (.int (nI 2)), none, none] (by simp [leL, sto1, sto2, k2c]) ?_
          have e1 : timeF (nI A) (nI 1) = nI ((A + 1 - 1) / 1) := timeF_nI (by omega) (by decide) (by decide)
          have e2 : timeF (nI B) (nI 2) = nI ((B + 2 - 1) / 2) := timeF_nI (by omega) (by decide) (by decide)
          have hcan : canF (nI A) 1 = true ∧ canF (nI B) 2 = true := ⟨by unfold canF; rw [decide_eq_true (show 0 < nI A from nI_lt (a := 0) (by omega) (by omega)), Bool.true_or], by unfold canF; rw [decide_eq_true (show 0 < nI B from nI_lt (a := 0) (by omega) (by omega)), Bool.true_or]⟩
          have hS1 : burnSo1 f (nI A) 1 (nI B) 2 = f := by unfold burnSo1; rw [e1, e2, if_neg (fun z => z.2.elim (fun q => nI_ne0 (by omega) (by omega) q) (fun q => absurd c130 (Int32.not_lt.mpr q)))]
          have hcell : cellF (nI A) (nI B) f 1 2 = burnOnF (noteF (f) (nI ((B + 2 - 1) / 2)) (nI 1 + nI 2)) (nI ((B + 2 - 1) / 2)) (nI 2) (nI A - nI 1 * nI ((B + 2 - 1) / 2)) 1 := by unfold cellF burnSoF; rw [if_pos hcan, hS1]; unfold burnSo2; rw [e1, e2, if_pos ⟨nI_lt (a := 0) (by omega) (by omega), Or.inr (Int32.not_lt.mp c157)⟩]
          exact kk _ (by rw [hcell]; exact hE2) (f2)
      · skip
        refine MV.aload_n dX12_lays_133 rfl ?_
        refine MV.iload dX12_lays_134 rfl ?_
        refine MV.iload dX12_lays_136 rfl ?_
        refine MV.iload dX12_lays_138 rfl ?_
        refine MV.iload dX12_lays_140 rfl ?_
        refine MV.cV4 yoX12_tellsOn ml_X12_467 im_X12_tellsOn se_X12_tellsOn dX12_lays_142 rfl (Nat.le_of_ble_eq_true rfl) (by omega) rfl (Nat.le_of_ble_eq_true rfl) (tellsOn2_M (t := nI ((A + 1 - 1) / 1)) (i := 1) (b := B) (by omega) hE (by decide) (by decide) rfl) ?_
        rintro _ s1 ⟨rfl, hE1, f1⟩
        refine MV.iload dX12_lays_145 rfl ?_
        refine MV.sipush (v := 999) dX12_lays_147 (by decide) ?_
        refine MV.icmp_ge 171 dX12_lays_150 (by decide) (fun z => absurd z (nI_ge (b := 999) (by omega) (by decide))) (fun _ => ?_)
        refine MV.iload dX12_lays_153 rfl ?_
        refine MV.iload dX12_lays_155 rfl ?_
        refine MV.icmp_gt 171 dX12_lays_157 (by decide) (fun c157 => ?_) (fun c157 => ?_)
        · skip
          refine MV.weak [some (.ref a), none, none, some (.int (nI A)), some (.int (nI B)), some (.int (nI 1)), some (.int (nI 2)), none, none] (by simp [leL, sto1, sto2, k2c]) ?_
          have e1 : timeF (nI A) (nI 1) = nI ((A + 1 - 1) / 1) := timeF_nI (by omega) (by decide) (by decide)
          have e2 : timeF (nI B) (nI 2) = nI ((B + 2 - 1) / 2) := timeF_nI (by omega) (by decide) (by decide)
          have hcan : canF (nI A) 1 = true ∧ canF (nI B) 2 = true := ⟨by unfold canF; rw [decide_eq_true (show 0 < nI A from nI_lt (a := 0) (by omega) (by omega)), Bool.true_or], by unfold canF; rw [decide_eq_true (show 0 < nI B from nI_lt (a := 0) (by omega) (by omega)), Bool.true_or]⟩
          have hS1 : burnSo1 f (nI A) 1 (nI B) 2 = burnOnF (noteF f (nI ((A + 1 - 1) / 1)) (nI 1 + nI 2)) (nI ((A + 1 - 1) / 1)) (nI 1) (nI B - nI 2 * nI ((A + 1 - 1) / 1)) 2 := by unfold burnSo1; rw [e1, e2, if_pos ⟨nI_lt (a := 0) (by omega) (by omega), Or.inr (Int32.not_lt.mp c130)⟩]
          have hcell : cellF (nI A) (nI B) f 1 2 = burnOnF (noteF f (nI ((A + 1 - 1) / 1)) (nI 1 + nI 2)) (nI ((A + 1 - 1) / 1)) (nI 1) (nI B - nI 2 * nI ((A + 1 - 1) / 1)) 2 := by unfold cellF burnSoF; rw [if_pos hcan, hS1]; unfold burnSo2; rw [e1, e2, if_neg (fun z => z.2.elim (fun q => nI_ne0 (by omega) (by omega) q) (fun q => absurd c157 (Int32.not_lt.mpr q)))]
          exact kk _ (by rw [hcell]; exact hE1) f1
        · skip
          refine MV.aload_n dX12_lays_160 rfl ?_
          refine MV.iload dX12_lays_161 rfl ?_
          refine MV.iload dX12_lays_163 rfl ?_
          refine MV.iload_n dX12_lays_165 rfl ?_
          refine MV.iload dX12_lays_166 rfl ?_
          refine MV.cV4 yoX12_tellsOn ml_X12_467 im_X12_tellsOn se_X12_tellsOn dX12_lays_168 rfl (Nat.le_of_ble_eq_true rfl) (by omega) rfl (Nat.le_of_ble_eq_true rfl) (tellsOn1_M (t := nI ((B + 2 - 1) / 2)) (i := 2) (b := A) (by omega) hE1 (by decide) (by decide) rfl) ?_
          rintro _ s2 ⟨rfl, hE2, f2⟩
          rw [show nI 2 + nI 1 = nI 1 + nI 2 by decide] at hE2
          refine MV.weak [some (.ref a), none, none, some (.int (nI A)), some (.int (nI B)), some (.int (nI 1)), some (.int (nI 2)), none, none] (by simp [leL, sto1, sto2, k2c]) ?_
          have e1 : timeF (nI A) (nI 1) = nI ((A + 1 - 1) / 1) := timeF_nI (by omega) (by decide) (by decide)
          have e2 : timeF (nI B) (nI 2) = nI ((B + 2 - 1) / 2) := timeF_nI (by omega) (by decide) (by decide)
          have hcan : canF (nI A) 1 = true ∧ canF (nI B) 2 = true := ⟨by unfold canF; rw [decide_eq_true (show 0 < nI A from nI_lt (a := 0) (by omega) (by omega)), Bool.true_or], by unfold canF; rw [decide_eq_true (show 0 < nI B from nI_lt (a := 0) (by omega) (by omega)), Bool.true_or]⟩
          have hS1 : burnSo1 f (nI A) 1 (nI B) 2 = burnOnF (noteF f (nI ((A + 1 - 1) / 1)) (nI 1 + nI 2)) (nI ((A + 1 - 1) / 1)) (nI 1) (nI B - nI 2 * nI ((A + 1 - 1) / 1)) 2 := by unfold burnSo1; rw [e1, e2, if_pos ⟨nI_lt (a := 0) (by omega) (by omega), Or.inr (Int32.not_lt.mp c130)⟩]
          have hcell : cellF (nI A) (nI B) f 1 2 = burnOnF (noteF (burnOnF (noteF f (nI ((A + 1 - 1) / 1)) (nI 1 + nI 2)) (nI ((A + 1 - 1) / 1)) (nI 1) (nI B - nI 2 * nI ((A + 1 - 1) / 1)) 2) (nI ((B + 2 - 1) / 2)) (nI 1 + nI 2)) (nI ((B + 2 - 1) / 2)) (nI 2) (nI A - nI 1 * nI ((B + 2 - 1) / 2)) 1 := by unfold cellF burnSoF; rw [if_pos hcan, hS1]; unfold burnSo2; rw [e1, e2, if_pos ⟨nI_lt (a := 0) (by omega) (by omega), Or.inr (Int32.not_lt.mp c157)⟩]
          exact kk _ (by rw [hcell]; exact hE2) (f1.tr f2)
    · skip
      have hz : nI B = 0 := c73
      refine MV.goto 171 dX12_lays_76 (by decide) ?_
      refine MV.weak [some (.ref a), none, none, some (.int (nI A)), some (.int (nI B)), some (.int (nI 1)), some (.int (nI 2)), none, none] (by simp [leL, sto1, sto2, k2c]) ?_
      have hcell : cellF (nI A) (nI B) f 1 2 = f := by
        unfold cellF canF
        rw [if_neg]
        rw [hz]
        intro z
        exact absurd z.2 (by decide)
      exact kk _ (by rw [hcell]; exact hE) frE.rf
set_option maxRecDepth 100000 in
set_option maxHeartbeats 1000000 in
theorem cell20_M {d n0 a : Nat} {κ : Kd} {h0 : Hp} (hd : 3 ≤ d) {s : St} {f : Nat → Int32} (hE : relE f (s.2.1 50)) {P : Option Value → St → Prop} {A B : Nat} (hA60 : A ≤ 60) (hB60 : B ≤ 60) (kk : ∀ s' : St, relE (cellF (nI A) (nI B) f 2 0) (s'.2.1 50) → frE s s' → MV MX12_lays (d, 0, 0, n0, κ) a h0 s' 171 [some (.ref a), none, none, some (.int (nI A)), some (.int (nI B)), some (.int (nI 2)), some (.int (nI 0)), none, none] [] P) : MV MX12_lays (d, 0, 0, n0, κ) a h0 s 57 [some (.ref a), none, none, some (.int (nI A)), some (.int (nI B)), some (.int (nI 2)), some (.int (nI 0)), none, none] [] P := by
  refine MV.iload dX12_lays_57 rfl ?_
  refine MV.if_le 66 dX12_lays_59 (by decide) (fun z => absurd z (show ¬ nI 2 ≤ 0 by decide)) (fun _ => ?_)
  refine MV.iload_n dX12_lays_62 rfl ?_
  refine MV.if_eq 171 dX12_lays_63 (by decide) (fun c63 => ?_) (fun c63 => ?_)
  · skip
    have hz : nI A = 0 := c63
    refine MV.weak [some (.ref a), none, none, some (.int (nI A)), some (.int (nI B)), some (.int (nI 2)), some (.int (nI 0)), none, none] (by simp [leL, sto1, sto2, k2c]) ?_
    have hcell : cellF (nI A) (nI B) f 2 0 = f := by
      unfold cellF canF
      rw [if_neg]
      rw [hz]
      intro z
      exact absurd z.1 (by decide)
    exact kk _ (by rw [hcell]; exact hE) frE.rf
  · skip
    have hA : 1 ≤ A := by
      rcases Nat.eq_zero_or_pos A with z | z
      · exact absurd (show nI A = 0 by rw [z]; rfl) c63
      · exact z
    refine MV.iload dX12_lays_66 rfl ?_
    refine MV.if_le 79 dX12_lays_68 (by decide) (fun _ => ?_) (fun z => absurd (show nI 0 ≤ 0 by decide) z)
    refine MV.iload dX12_lays_79 rfl ?_
    refine MV.if_ne 90 dX12_lays_81 (by decide) (fun _ => ?_) (fun z => absurd z (show ¬ nI 2 = 0 by decide))
    refine MV.iload_n dX12_lays_90 rfl ?_
    refine MV.iload dX12_lays_91 rfl ?_
    refine MV.cS2 yoX12_hoursOf ml_X12_464 st_X12_hoursOf dX12_lays_93 (Nat.le_of_ble_eq_true rfl) (by omega) rfl (Nat.le_of_ble_eq_true rfl) (fun h H => hoursOf_V (e := nI 2) (by omega) (by decide)) ?_
    refine MV.eqi (nI ((A + 2 - 1) / 2)) (timeF_nI (by omega) (by decide) (by decide)) ?_
    skip
    refine MV.istore dX12_lays_96 (by decide) rfl ?_
    refine MV.iload dX12_lays_98 rfl ?_
    refine MV.if_ne 109 dX12_lays_100 (by decide) (fun z => absurd (show nI 0 = 0 by decide) z) (fun _ => ?_)
    refine MV.sipush (v := nI 999) dX12_lays_103 (by decide) ?_
    refine MV.goto 116 dX12_lays_106 (by decide) ?_
    refine MV.istore dX12_lays_116 (by decide) rfl ?_
    refine MV.iload dX12_lays_118 rfl ?_
    refine MV.sipush (v := 999) dX12_lays_120 (by decide) ?_
    refine MV.icmp_ge 145 dX12_lays_123 (by decide) (fun z => absurd z (nI_ge (b := 999) (by omega) (by decide))) (fun _ => ?_)
    refine MV.iload dX12_lays_126 rfl ?_
    refine MV.iload dX12_lays_128 rfl ?_
    refine MV.icmp_gt 145 dX12_lays_130 (by decide) (fun z => absurd z (nI_nlt (a := 999) (by omega) (by decide))) (fun _ => ?_)
    refine MV.aload_n dX12_lays_133 rfl ?_
    refine MV.iload dX12_lays_134 rfl ?_
    refine MV.iload dX12_lays_136 rfl ?_
    refine MV.iload dX12_lays_138 rfl ?_
    refine MV.iload dX12_lays_140 rfl ?_
    refine MV.cV4 yoX12_tellsOn ml_X12_467 im_X12_tellsOn se_X12_tellsOn dX12_lays_142 rfl (Nat.le_of_ble_eq_true rfl) (by omega) rfl (Nat.le_of_ble_eq_true rfl) (tellsOn0_M (t := nI ((A + 2 - 1) / 2)) (i := 2) (b := B) (by omega) hE (by decide) (by decide) rfl) ?_
    rintro _ s1 ⟨rfl, hE1, f1⟩
    refine MV.iload dX12_lays_145 rfl ?_
    refine MV.sipush (v := 999) dX12_lays_147 (by decide) ?_
    refine MV.icmp_ge 171 dX12_lays_150 (by decide) (fun _ => ?_) (fun z => absurd (show (999 : Int32) ≤ nI 999 by decide) z)
    refine MV.weak [some (.ref a), none, none, some (.int (nI A)), some (.int (nI B)), some (.int (nI 2)), some (.int (nI 0)), none, none] (by simp [leL, sto1, sto2, k2c]) ?_
    have e1 : timeF (nI A) (nI 2) = nI ((A + 2 - 1) / 2) := timeF_nI (by omega) (by decide) (by decide)
    have e2 : timeF (nI B) (nI 0) = 0 := by unfold timeF; rw [if_pos (by decide)]
    have hcan : canF (nI A) 2 = true ∧ canF (nI B) 0 = true := ⟨by unfold canF; rw [decide_eq_true (show 0 < nI A from nI_lt (a := 0) (by omega) (by omega)), Bool.true_or], by unfold canF; rw [decide_eq_true (show nI 0 = 0 by decide), Bool.or_true]⟩
    have hS1 : burnSo1 f (nI A) 2 (nI B) 0 = burnOnF (noteF f (nI ((A + 2 - 1) / 2)) (nI 2 + nI 0)) (nI ((A + 2 - 1) / 2)) (nI 2) (nI B - nI 0 * nI ((A + 2 - 1) / 2)) 0 := by unfold burnSo1; rw [e1, e2, if_pos ⟨nI_lt (a := 0) (by omega) (by omega), Or.inl rfl⟩]
    have hcell : cellF (nI A) (nI B) f 2 0 = burnOnF (noteF f (nI ((A + 2 - 1) / 2)) (nI 2 + nI 0)) (nI ((A + 2 - 1) / 2)) (nI 2) (nI B - nI 0 * nI ((A + 2 - 1) / 2)) 0 := by unfold cellF burnSoF; rw [if_pos hcan, hS1]; unfold burnSo2; rw [e1, e2, if_neg (fun z => absurd z.1 (by decide))]
    exact kk _ (by rw [hcell]; exact hE1) f1
set_option maxRecDepth 100000 in
set_option maxHeartbeats 1000000 in
theorem cell21_M {d n0 a : Nat} {κ : Kd} {h0 : Hp} (hd : 3 ≤ d) {s : St} {f : Nat → Int32} (hE : relE f (s.2.1 50)) {P : Option Value → St → Prop} {A B : Nat} (hA60 : A ≤ 60) (hB60 : B ≤ 60) (kk : ∀ s' : St, relE (cellF (nI A) (nI B) f 2 1) (s'.2.1 50) → frE s s' → MV MX12_lays (d, 0, 0, n0, κ) a h0 s' 171 [some (.ref a), none, none, some (.int (nI A)), some (.int (nI B)), some (.int (nI 2)), some (.int (nI 1)), none, none] [] P) : MV MX12_lays (d, 0, 0, n0, κ) a h0 s 57 [some (.ref a), none, none, some (.int (nI A)), some (.int (nI B)), some (.int (nI 2)), some (.int (nI 1)), none, none] [] P := by
  refine MV.iload dX12_lays_57 rfl ?_
  refine MV.if_le 66 dX12_lays_59 (by decide) (fun z => absurd z (show ¬ nI 2 ≤ 0 by decide)) (fun _ => ?_)
  refine MV.iload_n dX12_lays_62 rfl ?_
  refine MV.if_eq 171 dX12_lays_63 (by decide) (fun c63 => ?_) (fun c63 => ?_)
  · skip
    have hz : nI A = 0 := c63
    refine MV.weak [some (.ref a), none, none, some (.int (nI A)), some (.int (nI B)), some (.int (nI 2)), some (.int (nI 1)), none, none] (by simp [leL, sto1, sto2, k2c]) ?_
    have hcell : cellF (nI A) (nI B) f 2 1 = f := by
      unfold cellF canF
      rw [if_neg]
      rw [hz]
      intro z
      exact absurd z.1 (by decide)
    exact kk _ (by rw [hcell]; exact hE) frE.rf
  · skip
    have hA : 1 ≤ A := by
      rcases Nat.eq_zero_or_pos A with z | z
      · exact absurd (show nI A = 0 by rw [z]; rfl) c63
      · exact z
    refine MV.iload dX12_lays_66 rfl ?_
    refine MV.if_le 79 dX12_lays_68 (by decide) (fun z => absurd z (show ¬ nI 1 ≤ 0 by decide)) (fun _ => ?_)
    refine MV.iload dX12_lays_71 rfl ?_
    refine MV.if_ne 79 dX12_lays_73 (by decide) (fun c73 => ?_) (fun c73 => ?_)
    · skip
      have hB : 1 ≤ B := by
        rcases Nat.eq_zero_or_pos B with z | z
        · exact absurd (show nI B = 0 by rw [z]; rfl) c73
        · exact z
      refine MV.iload dX12_lays_79 rfl ?_
      refine MV.if_ne 90 dX12_lays_81 (by decide) (fun _ => ?_) (fun z => absurd z (show ¬ nI 2 = 0 by decide))
      refine MV.iload_n dX12_lays_90 rfl ?_
      refine MV.iload dX12_lays_91 rfl ?_
      refine MV.cS2 yoX12_hoursOf ml_X12_464 st_X12_hoursOf dX12_lays_93 (Nat.le_of_ble_eq_true rfl) (by omega) rfl (Nat.le_of_ble_eq_true rfl) (fun h H => hoursOf_V (e := nI 2) (by omega) (by decide)) ?_
      refine MV.eqi (nI ((A + 2 - 1) / 2)) (timeF_nI (by omega) (by decide) (by decide)) ?_
      skip
      refine MV.istore dX12_lays_96 (by decide) rfl ?_
      refine MV.iload dX12_lays_98 rfl ?_
      refine MV.if_ne 109 dX12_lays_100 (by decide) (fun _ => ?_) (fun z => absurd z (show ¬ nI 1 = 0 by decide))
      refine MV.iload dX12_lays_109 rfl ?_
      refine MV.iload dX12_lays_111 rfl ?_
      refine MV.cS2 yoX12_hoursOf ml_X12_464 st_X12_hoursOf dX12_lays_113 (Nat.le_of_ble_eq_true rfl) (by omega) rfl (Nat.le_of_ble_eq_true rfl) (fun h H => hoursOf_V (e := nI 1) (by omega) (by decide)) ?_
      refine MV.eqi (nI ((B + 1 - 1) / 1)) (timeF_nI (by omega) (by decide) (by decide)) ?_
      skip
      refine MV.istore dX12_lays_116 (by decide) rfl ?_
      refine MV.iload dX12_lays_118 rfl ?_
      refine MV.sipush (v := 999) dX12_lays_120 (by decide) ?_
      refine MV.icmp_ge 145 dX12_lays_123 (by decide) (fun z => absurd z (nI_ge (b := 999) (by omega) (by decide))) (fun _ => ?_)
      refine MV.iload dX12_lays_126 rfl ?_
      refine MV.iload dX12_lays_128 rfl ?_
      refine MV.icmp_gt 145 dX12_lays_130 (by decide) (fun c130 => ?_) (fun c130 => ?_)
      · skip
        refine MV.iload dX12_lays_145 rfl ?_
        refine MV.sipush (v := 999) dX12_lays_147 (by decide) ?_
        refine MV.icmp_ge 171 dX12_lays_150 (by decide) (fun z => absurd z (nI_ge (b := 999) (by omega) (by decide))) (fun _ => ?_)
        refine MV.iload dX12_lays_153 rfl ?_
        refine MV.iload dX12_lays_155 rfl ?_
        refine MV.icmp_gt 171 dX12_lays_157 (by decide) (fun c157 => ?_) (fun c157 => ?_)
        · skip
          refine MV.weak [some (.ref a), none, none, some (.int (nI A)), some (.int (nI B)), some (.int (nI 2)), some (.int (nI 1)), none, none] (by simp [leL, sto1, sto2, k2c]) ?_
          have e1 : timeF (nI A) (nI 2) = nI ((A + 2 - 1) / 2) := timeF_nI (by omega) (by decide) (by decide)
          have e2 : timeF (nI B) (nI 1) = nI ((B + 1 - 1) / 1) := timeF_nI (by omega) (by decide) (by decide)
          have hcan : canF (nI A) 2 = true ∧ canF (nI B) 1 = true := ⟨by unfold canF; rw [decide_eq_true (show 0 < nI A from nI_lt (a := 0) (by omega) (by omega)), Bool.true_or], by unfold canF; rw [decide_eq_true (show 0 < nI B from nI_lt (a := 0) (by omega) (by omega)), Bool.true_or]⟩
          exact absurd (Int32.lt_trans c130 c157) Int32.lt_irrefl
        · skip
          refine MV.aload_n dX12_lays_160 rfl ?_
          refine MV.iload dX12_lays_161 rfl ?_
          refine MV.iload dX12_lays_163 rfl ?_
          refine MV.iload_n dX12_lays_165 rfl ?_
          refine MV.iload dX12_lays_166 rfl ?_
          refine MV.cV4 yoX12_tellsOn ml_X12_467 im_X12_tellsOn se_X12_tellsOn dX12_lays_168 rfl (Nat.le_of_ble_eq_true rfl) (by omega) rfl (Nat.le_of_ble_eq_true rfl) (tellsOn2_M (t := nI ((B + 1 - 1) / 1)) (i := 1) (b := A) (by omega) hE (by decide) (by decide) rfl) ?_
          rintro _ s2 ⟨rfl, hE2, f2⟩
          rw [show nI 1 + nI 2 = nI 2 + nI 1 by decide] at hE2
          refine MV.weak [some (.ref a), none, none, some (.int (nI A)), some (.int (nI B)), some (.int (nI 2)), some (.int (nI 1)), none, none] (by simp [leL, sto1, sto2, k2c]) ?_
          have e1 : timeF (nI A) (nI 2) = nI ((A + 2 - 1) / 2) := timeF_nI (by omega) (by decide) (by decide)
          have e2 : timeF (nI B) (nI 1) = nI ((B + 1 - 1) / 1) := timeF_nI (by omega) (by decide) (by decide)
          have hcan : canF (nI A) 2 = true ∧ canF (nI B) 1 = true := ⟨by unfold canF; rw [decide_eq_true (show 0 < nI A from nI_lt (a := 0) (by omega) (by omega)), Bool.true_or], by unfold canF; rw [decide_eq_true (show 0 < nI B from nI_lt (a := 0) (by omega) (by omega)), Bool.true_or]⟩
          have hS1 : burnSo1 f (nI A) 2 (nI B) 1 = f := by unfold burnSo1; rw [e1, e2, if_neg (fun z => z.2.elim (fun q => nI_ne0 (by omega) (by omega) q) (fun q => absurd c130 (Int32.not_lt.mpr q)))]
          have hcell : cellF (nI A) (nI B) f 2 1 = burnOnF (noteF (f) (nI ((B + 1 - 1) / 1)) (nI 2 + nI 1)) (nI ((B + 1 - 1) / 1)) (nI 1) (nI A - nI 2 * nI ((B + 1 - 1) / 1)) 2 := by unfold cellF burnSoF; rw [if_pos hcan, hS1]; unfold burnSo2; rw [e1, e2, if_pos ⟨nI_lt (a := 0) (by omega) (by omega), Or.inr (Int32.not_lt.mp c157)⟩]
          exact kk _ (by rw [hcell]; exact hE2) (f2)
      · skip
        refine MV.aload_n dX12_lays_133 rfl ?_
        refine MV.iload dX12_lays_134 rfl ?_
        refine MV.iload dX12_lays_136 rfl ?_
        refine MV.iload dX12_lays_138 rfl ?_
        refine MV.iload dX12_lays_140 rfl ?_
        refine MV.cV4 yoX12_tellsOn ml_X12_467 im_X12_tellsOn se_X12_tellsOn dX12_lays_142 rfl (Nat.le_of_ble_eq_true rfl) (by omega) rfl (Nat.le_of_ble_eq_true rfl) (tellsOn1_M (t := nI ((A + 2 - 1) / 2)) (i := 2) (b := B) (by omega) hE (by decide) (by decide) rfl) ?_
        rintro _ s1 ⟨rfl, hE1, f1⟩
        refine MV.iload dX12_lays_145 rfl ?_
        refine MV.sipush (v := 999) dX12_lays_147 (by decide) ?_
        refine MV.icmp_ge 171 dX12_lays_150 (by decide) (fun z => absurd z (nI_ge (b := 999) (by omega) (by decide))) (fun _ => ?_)
        refine MV.iload dX12_lays_153 rfl ?_
        refine MV.iload dX12_lays_155 rfl ?_
        refine MV.icmp_gt 171 dX12_lays_157 (by decide) (fun c157 => ?_) (fun c157 => ?_)
        · skip
          refine MV.weak [some (.ref a), none, none, some (.int (nI A)), some (.int (nI B)), some (.int (nI 2)), some (.int (nI 1)), none, none] (by simp [leL, sto1, sto2, k2c]) ?_
          have e1 : timeF (nI A) (nI 2) = nI ((A + 2 - 1) / 2) := timeF_nI (by omega) (by decide) (by decide)
          have e2 : timeF (nI B) (nI 1) = nI ((B + 1 - 1) / 1) := timeF_nI (by omega) (by decide) (by decide)
          have hcan : canF (nI A) 2 = true ∧ canF (nI B) 1 = true := ⟨by unfold canF; rw [decide_eq_true (show 0 < nI A from nI_lt (a := 0) (by omega) (by omega)), Bool.true_or], by unfold canF; rw [decide_eq_true (show 0 < nI B from nI_lt (a := 0) (by omega) (by omega)), Bool.true_or]⟩
          have hS1 : burnSo1 f (nI A) 2 (nI B) 1 = burnOnF (noteF f (nI ((A + 2 - 1) / 2)) (nI 2 + nI 1)) (nI ((A + 2 - 1) / 2)) (nI 2) (nI B - nI 1 * nI ((A + 2 - 1) / 2)) 1 := by unfold burnSo1; rw [e1, e2, if_pos ⟨nI_lt (a := 0) (by omega) (by omega), Or.inr (Int32.not_lt.mp c130)⟩]
          have hcell : cellF (nI A) (nI B) f 2 1 = burnOnF (noteF f (nI ((A + 2 - 1) / 2)) (nI 2 + nI 1)) (nI ((A + 2 - 1) / 2)) (nI 2) (nI B - nI 1 * nI ((A + 2 - 1) / 2)) 1 := by unfold cellF burnSoF; rw [if_pos hcan, hS1]; unfold burnSo2; rw [e1, e2, if_neg (fun z => z.2.elim (fun q => nI_ne0 (by omega) (by omega) q) (fun q => absurd c157 (Int32.not_lt.mpr q)))]
          exact kk _ (by rw [hcell]; exact hE1) f1
        · skip
          refine MV.aload_n dX12_lays_160 rfl ?_
          refine MV.iload dX12_lays_161 rfl ?_
          refine MV.iload dX12_lays_163 rfl ?_
          refine MV.iload_n dX12_lays_165 rfl ?_
          refine MV.iload dX12_lays_166 rfl ?_
          refine MV.cV4 yoX12_tellsOn ml_X12_467 im_X12_tellsOn se_X12_tellsOn dX12_lays_168 rfl (Nat.le_of_ble_eq_true rfl) (by omega) rfl (Nat.le_of_ble_eq_true rfl) (tellsOn2_M (t := nI ((B + 1 - 1) / 1)) (i := 1) (b := A) (by omega) hE1 (by decide) (by decide) rfl) ?_
          rintro _ s2 ⟨rfl, hE2, f2⟩
          rw [show nI 1 + nI 2 = nI 2 + nI 1 by decide] at hE2
          refine MV.weak [some (.ref a), none, none, some (.int (nI A)), some (.int (nI B)), some (.int (nI 2)), some (.int (nI 1)), none, none] (by simp [leL, sto1, sto2, k2c]) ?_
          have e1 : timeF (nI A) (nI 2) = nI ((A + 2 - 1) / 2) := timeF_nI (by omega) (by decide) (by decide)
          have e2 : timeF (nI B) (nI 1) = nI ((B + 1 - 1) / 1) := timeF_nI (by omega) (by decide) (by decide)
          have hcan : canF (nI A) 2 = true ∧ canF (nI B) 1 = true := ⟨by unfold canF; rw [decide_eq_true (show 0 < nI A from nI_lt (a := 0) (by omega) (by omega)), Bool.true_or], by unfold canF; rw [decide_eq_true (show 0 < nI B from nI_lt (a := 0) (by omega) (by omega)), Bool.true_or]⟩
          have hS1 : burnSo1 f (nI A) 2 (nI B) 1 = burnOnF (noteF f (nI ((A + 2 - 1) / 2)) (nI 2 + nI 1)) (nI ((A + 2 - 1) / 2)) (nI 2) (nI B - nI 1 * nI ((A + 2 - 1) / 2)) 1 := by unfold burnSo1; rw [e1, e2, if_pos ⟨nI_lt (a := 0) (by omega) (by omega), Or.inr (Int32.not_lt.mp c130)⟩]
          have hcell : cellF (nI A) (nI B) f 2 1 = burnOnF (noteF (burnOnF (noteF f (nI ((A + 2 - 1) / 2)) (nI 2 + nI 1)) (nI ((A + 2 - 1) / 2)) (nI 2) (nI B - nI 1 * nI ((A + 2 - 1) / 2)) 1) (nI ((B + 1 - 1) / 1)) (nI 2 + nI 1)) (nI ((B + 1 - 1) / 1)) (nI 1) (nI A - nI 2 * nI ((B + 1 - 1) / 1)) 2 := by unfold cellF burnSoF; rw [if_pos hcan, hS1]; unfold burnSo2; rw [e1, e2, if_pos ⟨nI_lt (a := 0) (by omega) (by omega), Or.inr (Int32.not_lt.mp c157)⟩]
          exact kk _ (by rw [hcell]; exact hE2) (f1.tr f2)
    · skip
      have hz : nI B = 0 := c73
      refine MV.goto 171 dX12_lays_76 (by decide) ?_
      refine MV.weak [some (.ref a), none, none, some (.int (nI A)), some (.int (nI B)), some (.int (nI 2)), some (.int (nI 1)), none, none] (by simp [leL, sto1, sto2, k2c]) ?_
      have hcell : cellF (nI A) (nI B) f 2 1 = f := by
        unfold cellF canF
        rw [if_neg]
        rw [hz]
        intro z
        exact absurd z.2 (by decide)
      exact kk _ (by rw [hcell]; exact hE) frE.rf
set_option maxRecDepth 100000 in
set_option maxHeartbeats 1000000 in
theorem cell22_M {d n0 a : Nat} {κ : Kd} {h0 : Hp} (hd : 3 ≤ d) {s : St} {f : Nat → Int32} (hE : relE f (s.2.1 50)) {P : Option Value → St → Prop} {A B : Nat} (hA60 : A ≤ 60) (hB60 : B ≤ 60) (kk : ∀ s' : St, relE (cellF (nI A) (nI B) f 2 2) (s'.2.1 50) → frE s s' → MV MX12_lays (d, 0, 0, n0, κ) a h0 s' 171 [some (.ref a), none, none, some (.int (nI A)), some (.int (nI B)), some (.int (nI 2)), some (.int (nI 2)), none, none] [] P) : MV MX12_lays (d, 0, 0, n0, κ) a h0 s 57 [some (.ref a), none, none, some (.int (nI A)), some (.int (nI B)), some (.int (nI 2)), some (.int (nI 2)), none, none] [] P := by
  refine MV.iload dX12_lays_57 rfl ?_
  refine MV.if_le 66 dX12_lays_59 (by decide) (fun z => absurd z (show ¬ nI 2 ≤ 0 by decide)) (fun _ => ?_)
  refine MV.iload_n dX12_lays_62 rfl ?_
  refine MV.if_eq 171 dX12_lays_63 (by decide) (fun c63 => ?_) (fun c63 => ?_)
  · skip
    have hz : nI A = 0 := c63
    refine MV.weak [some (.ref a), none, none, some (.int (nI A)), some (.int (nI B)), some (.int (nI 2)), some (.int (nI 2)), none, none] (by simp [leL, sto1, sto2, k2c]) ?_
    have hcell : cellF (nI A) (nI B) f 2 2 = f := by
      unfold cellF canF
      rw [if_neg]
      rw [hz]
      intro z
      exact absurd z.1 (by decide)
    exact kk _ (by rw [hcell]; exact hE) frE.rf
  · skip
    have hA : 1 ≤ A := by
      rcases Nat.eq_zero_or_pos A with z | z
      · exact absurd (show nI A = 0 by rw [z]; rfl) c63
      · exact z
    refine MV.iload dX12_lays_66 rfl ?_
    refine MV.if_le 79 dX12_lays_68 (by decide) (fun z => absurd z (show ¬ nI 2 ≤ 0 by decide)) (fun _ => ?_)
    refine MV.iload dX12_lays_71 rfl ?_
    refine MV.if_ne 79 dX12_lays_73 (by decide) (fun c73 => ?_) (fun c73 => ?_)
    · skip
      have hB : 1 ≤ B := by
        rcases Nat.eq_zero_or_pos B with z | z
        · exact absurd (show nI B = 0 by rw [z]; rfl) c73
        · exact z
      refine MV.iload dX12_lays_79 rfl ?_
      refine MV.if_ne 90 dX12_lays_81 (by decide) (fun _ => ?_) (fun z => absurd z (show ¬ nI 2 = 0 by decide))
      refine MV.iload_n dX12_lays_90 rfl ?_
      refine MV.iload dX12_lays_91 rfl ?_
      refine MV.cS2 yoX12_hoursOf ml_X12_464 st_X12_hoursOf dX12_lays_93 (Nat.le_of_ble_eq_true rfl) (by omega) rfl (Nat.le_of_ble_eq_true rfl) (fun h H => hoursOf_V (e := nI 2) (by omega) (by decide)) ?_
      refine MV.eqi (nI ((A + 2 - 1) / 2)) (timeF_nI (by omega) (by decide) (by decide)) ?_
      skip
      refine MV.istore dX12_lays_96 (by decide) rfl ?_
      refine MV.iload dX12_lays_98 rfl ?_
      refine MV.if_ne 109 dX12_lays_100 (by decide) (fun _ => ?_) (fun z => absurd z (show ¬ nI 2 = 0 by decide))
      refine MV.iload dX12_lays_109 rfl ?_
      refine MV.iload dX12_lays_111 rfl ?_
      refine MV.cS2 yoX12_hoursOf ml_X12_464 st_X12_hoursOf dX12_lays_113 (Nat.le_of_ble_eq_true rfl) (by omega) rfl (Nat.le_of_ble_eq_true rfl) (fun h H => hoursOf_V (e := nI 2) (by omega) (by decide)) ?_
      refine MV.eqi (nI ((B + 2 - 1) / 2)) (timeF_nI (by omega) (by decide) (by decide)) ?_
      skip
      refine MV.istore dX12_lays_116 (by decide) rfl ?_
      refine MV.iload dX12_lays_118 rfl ?_
      refine MV.sipush (v := 999) dX12_lays_120 (by decide) ?_
      refine MV.icmp_ge 145 dX12_lays_123 (by decide) (fun z => absurd z (nI_ge (b := 999) (by omega) (by decide))) (fun _ => ?_)
      refine MV.iload dX12_lays_126 rfl ?_
      refine MV.iload dX12_lays_128 rfl ?_
      refine MV.icmp_gt 145 dX12_lays_130 (by decide) (fun c130 => ?_) (fun c130 => ?_)
      · skip
        refine MV.iload dX12_lays_145 rfl ?_
        refine MV.sipush (v := 999) dX12_lays_147 (by decide) ?_
        refine MV.icmp_ge 171 dX12_lays_150 (by decide) (fun z => absurd z (nI_ge (b := 999) (by omega) (by decide))) (fun _ => ?_)
        refine MV.iload dX12_lays_153 rfl ?_
        refine MV.iload dX12_lays_155 rfl ?_
        refine MV.icmp_gt 171 dX12_lays_157 (by decide) (fun c157 => ?_) (fun c157 => ?_)
        · skip
          refine MV.weak [some (.ref a), none, none, some (.int (nI A)), some (.int (nI B)), some (.int (nI 2)), some (.int (nI 2)), none, none] (by simp [leL, sto1, sto2, k2c]) ?_
          have e1 : timeF (nI A) (nI 2) = nI ((A + 2 - 1) / 2) := timeF_nI (by omega) (by decide) (by decide)
          have e2 : timeF (nI B) (nI 2) = nI ((B + 2 - 1) / 2) := timeF_nI (by omega) (by decide) (by decide)
          have hcan : canF (nI A) 2 = true ∧ canF (nI B) 2 = true := ⟨by unfold canF; rw [decide_eq_true (show 0 < nI A from nI_lt (a := 0) (by omega) (by omega)), Bool.true_or], by unfold canF; rw [decide_eq_true (show 0 < nI B from nI_lt (a := 0) (by omega) (by omega)), Bool.true_or]⟩
          exact absurd (Int32.lt_trans c130 c157) Int32.lt_irrefl
        · skip
          refine MV.aload_n dX12_lays_160 rfl ?_
          refine MV.iload dX12_lays_161 rfl ?_
          refine MV.iload dX12_lays_163 rfl ?_
          refine MV.iload_n dX12_lays_165 rfl ?_
          refine MV.iload dX12_lays_166 rfl ?_
          refine MV.cV4 yoX12_tellsOn ml_X12_467 im_X12_tellsOn se_X12_tellsOn dX12_lays_168 rfl (Nat.le_of_ble_eq_true rfl) (by omega) rfl (Nat.le_of_ble_eq_true rfl) (tellsOn2_M (t := nI ((B + 2 - 1) / 2)) (i := 2) (b := A) (by omega) hE (by decide) (by decide) rfl) ?_
          rintro _ s2 ⟨rfl, hE2, f2⟩
          rw [show nI 2 + nI 2 = nI 2 + nI 2 by decide] at hE2
          refine MV.weak [some (.ref a), none, none, some (.int (nI A)), some (.int (nI B)), some (.int (nI 2)), some (.int (nI 2)), none, none] (by simp [leL, sto1, sto2, k2c]) ?_
          have e1 : timeF (nI A) (nI 2) = nI ((A + 2 - 1) / 2) := timeF_nI (by omega) (by decide) (by decide)
          have e2 : timeF (nI B) (nI 2) = nI ((B + 2 - 1) / 2) := timeF_nI (by omega) (by decide) (by decide)
          have hcan : canF (nI A) 2 = true ∧ canF (nI B) 2 = true := ⟨by unfold canF; rw [decide_eq_true (show 0 < nI A from nI_lt (a := 0) (by omega) (by omega)), Bool.true_or], by unfold canF; rw [decide_eq_true (show 0 < nI B from nI_lt (a := 0) (by omega) (by omega)), Bool.true_or]⟩
          have hS1 : burnSo1 f (nI A) 2 (nI B) 2 = f := by unfold burnSo1; rw [e1, e2, if_neg (fun z => z.2.elim (fun q => nI_ne0 (by omega) (by omega) q) (fun q => absurd c130 (Int32.not_lt.mpr q)))]
          have hcell : cellF (nI A) (nI B) f 2 2 = burnOnF (noteF (f) (nI ((B + 2 - 1) / 2)) (nI 2 + nI 2)) (nI ((B + 2 - 1) / 2)) (nI 2) (nI A - nI 2 * nI ((B + 2 - 1) / 2)) 2 := by unfold cellF burnSoF; rw [if_pos hcan, hS1]; unfold burnSo2; rw [e1, e2, if_pos ⟨nI_lt (a := 0) (by omega) (by omega), Or.inr (Int32.not_lt.mp c157)⟩]
          exact kk _ (by rw [hcell]; exact hE2) (f2)
      · skip
        refine MV.aload_n dX12_lays_133 rfl ?_
        refine MV.iload dX12_lays_134 rfl ?_
        refine MV.iload dX12_lays_136 rfl ?_
        refine MV.iload dX12_lays_138 rfl ?_
        refine MV.iload dX12_lays_140 rfl ?_
        refine MV.cV4 yoX12_tellsOn ml_X12_467 im_X12_tellsOn se_X12_tellsOn dX12_lays_142 rfl (Nat.le_of_ble_eq_true rfl) (by omega) rfl (Nat.le_of_ble_eq_true rfl) (tellsOn2_M (t := nI ((A + 2 - 1) / 2)) (i := 2) (b := B) (by omega) hE (by decide) (by decide) rfl) ?_
        rintro _ s1 ⟨rfl, hE1, f1⟩
        refine MV.iload dX12_lays_145 rfl ?_
        refine MV.sipush (v := 999) dX12_lays_147 (by decide) ?_
        refine MV.icmp_ge 171 dX12_lays_150 (by decide) (fun z => absurd z (nI_ge (b := 999) (by omega) (by decide))) (fun _ => ?_)
        refine MV.iload dX12_lays_153 rfl ?_
        refine MV.iload dX12_lays_155 rfl ?_
        refine MV.icmp_gt 171 dX12_lays_157 (by decide) (fun c157 => ?_) (fun c157 => ?_)
        · skip
          refine MV.weak [some (.ref a), none, none, some (.int (nI A)), some (.int (nI B)), some (.int (nI 2)), some (.int (nI 2)), none, none] (by simp [leL, sto1, sto2, k2c]) ?_
          have e1 : timeF (nI A) (nI 2) = nI ((A + 2 - 1) / 2) := timeF_nI (by omega) (by decide) (by decide)
          have e2 : timeF (nI B) (nI 2) = nI ((B + 2 - 1) / 2) := timeF_nI (by omega) (by decide) (by decide)
          have hcan : canF (nI A) 2 = true ∧ canF (nI B) 2 = true := ⟨by unfold canF; rw [decide_eq_true (show 0 < nI A from nI_lt (a := 0) (by omega) (by omega)), Bool.true_or], by unfold canF; rw [decide_eq_true (show 0 < nI B from nI_lt (a := 0) (by omega) (by omega)), Bool.true_or]⟩
          have hS1 : burnSo1 f (nI A) 2 (nI B) 2 = burnOnF (noteF f (nI ((A + 2 - 1) / 2)) (nI 2 + nI 2)) (nI ((A + 2 - 1) / 2)) (nI 2) (nI B - nI 2 * nI ((A + 2 - 1) / 2)) 2 := by unfold burnSo1; rw [e1, e2, if_pos ⟨nI_lt (a := 0) (by omega) (by omega), Or.inr (Int32.not_lt.mp c130)⟩]
          have hcell : cellF (nI A) (nI B) f 2 2 = burnOnF (noteF f (nI ((A + 2 - 1) / 2)) (nI 2 + nI 2)) (nI ((A + 2 - 1) / 2)) (nI 2) (nI B - nI 2 * nI ((A + 2 - 1) / 2)) 2 := by unfold cellF burnSoF; rw [if_pos hcan, hS1]; unfold burnSo2; rw [e1, e2, if_neg (fun z => z.2.elim (fun q => nI_ne0 (by omega) (by omega) q) (fun q => absurd c157 (Int32.not_lt.mpr q)))]
          exact kk _ (by rw [hcell]; exact hE1) f1
        · skip
          refine MV.aload_n dX12_lays_160 rfl ?_
          refine MV.iload dX12_lays_161 rfl ?_
          refine MV.iload dX12_lays_163 rfl ?_
          refine MV.iload_n dX12_lays_165 rfl ?_
          refine MV.iload dX12_lays_166 rfl ?_
          refine MV.cV4 yoX12_tellsOn ml_X12_467 im_X12_tellsOn se_X12_tellsOn dX12_lays_168 rfl (Nat.le_of_ble_eq_true rfl) (by omega) rfl (Nat.le_of_ble_eq_true rfl) (tellsOn2_M (t := nI ((B + 2 - 1) / 2)) (i := 2) (b := A) (by omega) hE1 (by decide) (by decide) rfl) ?_
          rintro _ s2 ⟨rfl, hE2, f2⟩
          rw [show nI 2 + nI 2 = nI 2 + nI 2 by decide] at hE2
          refine MV.weak [some (.ref a), none, none, some (.int (nI A)), some (.int (nI B)), some (.int (nI 2)), some (.int (nI 2)), none, none] (by simp [leL, sto1, sto2, k2c]) ?_
          have e1 : timeF (nI A) (nI 2) = nI ((A + 2 - 1) / 2) := timeF_nI (by omega) (by decide) (by decide)
          have e2 : timeF (nI B) (nI 2) = nI ((B + 2 - 1) / 2) := timeF_nI (by omega) (by decide) (by decide)
          have hcan : canF (nI A) 2 = true ∧ canF (nI B) 2 = true := ⟨by unfold canF; rw [decide_eq_true (show 0 < nI A from nI_lt (a := 0) (by omega) (by omega)), Bool.true_or], by unfold canF; rw [decide_eq_true (show 0 < nI B from nI_lt (a := 0) (by omega) (by omega)), Bool.true_or]⟩
          have hS1 : burnSo1 f (nI A) 2 (nI B) 2 = burnOnF (noteF f (nI ((A + 2 - 1) / 2)) (nI 2 + nI 2)) (nI ((A + 2 - 1) / 2)) (nI 2) (nI B - nI 2 * nI ((A + 2 - 1) / 2)) 2 := by unfold burnSo1; rw [e1, e2, if_pos ⟨nI_lt (a := 0) (by omega) (by omega), Or.inr (Int32.not_lt.mp c130)⟩]
          have hcell : cellF (nI A) (nI B) f 2 2 = burnOnF (noteF (burnOnF (noteF f (nI ((A + 2 - 1) / 2)) (nI 2 + nI 2)) (nI ((A + 2 - 1) / 2)) (nI 2) (nI B - nI 2 * nI ((A + 2 - 1) / 2)) 2) (nI ((B + 2 - 1) / 2)) (nI 2 + nI 2)) (nI ((B + 2 - 1) / 2)) (nI 2) (nI A - nI 2 * nI ((B + 2 - 1) / 2)) 2 := by unfold cellF burnSoF; rw [if_pos hcan, hS1]; unfold burnSo2; rw [e1, e2, if_pos ⟨nI_lt (a := 0) (by omega) (by omega), Or.inr (Int32.not_lt.mp c157)⟩]
          exact kk _ (by rw [hcell]; exact hE2) (f1.tr f2)
    · skip
      have hz : nI B = 0 := c73
      refine MV.goto 171 dX12_lays_76 (by decide) ?_
      refine MV.weak [some (.ref a), none, none, some (.int (nI A)), some (.int (nI B)), some (.int (nI 2)), some (.int (nI 2)), none, none] (by simp [leL, sto1, sto2, k2c]) ?_
      have hcell : cellF (nI A) (nI B) f 2 2 = f := by
        unfold cellF canF
        rw [if_neg]
        rw [hz]
        intro z
        exact absurd z.2 (by decide)
      exact kk _ (by rw [hcell]; exact hE) frE.rf
