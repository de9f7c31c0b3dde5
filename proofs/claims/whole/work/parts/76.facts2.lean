/-! The model: see, strike, known -/
/-- the FACTS -/
def facR (T : Tx) (s F : St) : Prop := okN (F.1 0) 25 ∧ s.1 55 = F.1 0 ∧ s.1 56 = F.1 1 ∧ (F.1 1 = -1 ∨ ∃ k, F.1 1 = nI k ∧ k ≤ nat (F.1 0)) ∧
  (∀ k, k < 24 → s.2.1 57 k = F.2.1 2 k ∧ s.2.1 58 k = F.2.1 3 k ∧ s.2.1 59 k = F.2.1 4 k ∧ s.2.1 60 k = F.2.1 5 k ∧ s.2.1 61 k = F.2.1 6 k) ∧
  ∀ k, k < nat (F.1 0) → (F.2.1 6 k = -1 ∧ okN (F.2.1 3 k) (nat (T.1.1 0)) ∧ okN (F.2.1 4 k) 60 ∧ okN (F.2.1 2 k) 61 ∧ ∃ b, F.2.1 5 k = bI b) ∨ okN (F.2.1 6 k) k
/-- only FACTS change -/
def frF (s s' : St) : Prop := (∀ j, j ≠ 0 → j ≠ 55 → j ≠ 56 → s'.1 j = s.1 j) ∧ ∀ k, ¬ (57 ≤ k ∧ k ≤ 61) → s'.2.1 k = s.2.1 k
theorem frF.rf {s : St} : frF s s := ⟨fun _ _ _ _ => rfl, fun _ _ => rfl⟩
theorem frF.tr {s1 s2 s3 : St} (h : frF s1 s2) (k : frF s2 s3) : frF s1 s3 := ⟨fun j a b c => (k.1 j a b c).trans (h.1 j a b c), fun j a => (k.2 j a).trans (h.2 j a)⟩
theorem frF.i {s : St} {j : Nat} {x : Int32} (h : j = 0 ∨ j = 55 ∨ j = 56) : frF s (mI s j x) := ⟨fun q a b c => upd_ne (by omega), fun _ _ => rfl⟩
theorem frF.a {s : St} {k i : Nat} {x : Int32} (h : 57 ≤ k ∧ k ≤ 61) : frF s (mA s k i x) := ⟨fun _ _ _ _ => rfl, fun q a => mA_ne (by omega)⟩
theorem facR.z {T : Tx} {s F : St} {x : Int32} (h : facR T s F) : facR T (mI s 0 x) F := h
theorem facR.fr {T : Tx} {s s' F : St} (h : facR T s F) (e1 : s'.1 55 = s.1 55) (e2 : s'.1 56 = s.1 56) (e3 : ∀ k, 57 ≤ k → k ≤ 61 → s'.2.1 k = s.2.1 k) : facR T s' F := by
  unfold facR at h ⊢
  rw [e1, e2, e3 57 (by decide) (by decide), e3 58 (by decide) (by decide), e3 59 (by decide) (by decide), e3 60 (by decide) (by decide), e3 61 (by decide) (by decide)]
  exact h
theorem Rm.F {T : Tx} {s s' c : St} {r : Nat} (h : Rm T s r c) (f : frF s s') : Rm T s' r c := by
  have f2 : frR r s (s'.1, s'.2.1, s.2.2) → True := fun _ => trivial
  obtain ⟨hT, hC, hW⟩ := h
  refine ⟨hT.kept (fun k hk => f.2 k (by omega)), ?_, hW⟩
  unfold relC mIn at hC ⊢
  rw [f.1 48 (by decide) (by decide) (by decide), f.1 49 (by decide) (by decide) (by decide), f.2 5 (by decide), f.2 36 (by decide), f.2 37 (by decide), f.2 38 (by decide), f.2 39 (by decide), f.2 40 (by decide), f.2 41 (by decide), f.2 42 (by decide), f.2 43 (by decide)]
  exact hC
theorem MU.F {T : Tx} {c g u s s' : St} {hi : Bool} (h : MU T c g u hi s) (f : frF s s') : MU T c g u hi s' := by
  obtain ⟨a1, a2, a3, a4, a5, a6, a7, a8⟩ := h
  exact ⟨⟨(f.1 46 (by decide) (by decide) (by decide)).trans a1.1, (f.1 48 (by decide) (by decide) (by decide)).trans a1.2⟩, (f.1 47 (by decide) (by decide) (by decide)).trans a2, a3.F f, (f.1 44 (by decide) (by decide) (by decide)).trans a4, fun z => (a5 z).F f, a6, (f.1 45 (by decide) (by decide) (by decide)).trans a7, fun j hj => ⟨(a8 j hj).1, (a8 j hj).2.F f⟩⟩
def aSeeB (T : Tx) (F : St) (x y w : Int32) : Bool := decide (¬ x < 1) && decide (¬ 60 < x) && isManB (T.1.1 0) y && isInchB w && decide (¬ F.1 0 = 24)
def aSeeV (T : Tx) (F : St) (x y w : Int32) : Int32 := if aSeeB T F x y w = true then F.1 0 else -1
def aSeeF (T : Tx) (F : St) (x y w : Int32) (b : Bool) : St := if aSeeB T F x y w = true then fAdd F (nat (F.1 0)) x y w (bI b) else F
def aStrB (F : St) (x : Int32) : Bool := decide (¬ x < 0) && decide (¬ F.1 0 ≤ x) && decide (¬ F.1 0 = 24)
def aStrV (F : St) (x : Int32) : Int32 := if aStrB F x = true then F.1 0 else -1
def aStrF (F : St) (x : Int32) : St := if aStrB F x = true then fStrike F (nat (F.1 0)) x else F
def aKnoB (F : St) (x : Int32) : Bool := decide (¬ x < -1) && decide (x ≤ F.1 0)
def aKnoF (F : St) (x : Int32) : St := if aKnoB F x = true then fKnow F x else F
theorem facR.sz {T : Tx} {s F : St} (h : facR T s F) (h24 : ¬ F.1 0 = 24) : F.1 0 = nI (nat (F.1 0)) ∧ nat (F.1 0) < 24 := by
  refine ⟨h.1.1, ?_⟩
  have := h.1.2
  have n : nat (F.1 0) ≠ 24 := fun z => h24 (by rw [h.1.1, z]; rfl)
  omega
theorem fa5 {f : Nat → Nat → Int32} {z : Nat} {x y w v u : Int32} (k : Nat) : (uA (uA (uA (uA (uA f 2 z x) 3 z y) 4 z w) 5 z v) 6 z u) 2 k = (if k = z then x else f 2 k) ∧ (uA (uA (uA (uA (uA f 2 z x) 3 z y) 4 z w) 5 z v) 6 z u) 3 k = (if k = z then y else f 3 k) ∧ (uA (uA (uA (uA (uA f 2 z x) 3 z y) 4 z w) 5 z v) 6 z u) 4 k = (if k = z then w else f 4 k) ∧ (uA (uA (uA (uA (uA f 2 z x) 3 z y) 4 z w) 5 z v) 6 z u) 5 k = (if k = z then v else f 5 k) ∧ (uA (uA (uA (uA (uA f 2 z x) 3 z y) 4 z w) 5 z v) 6 z u) 6 k = (if k = z then u else f 6 k) := by
  refine ⟨?_, ?_, ?_, ?_, ?_⟩ <;> (unfold uA upd; simp)
theorem fa57 {f : Nat → Nat → Int32} {z : Nat} {x y w v u : Int32} (k : Nat) : (uA (uA (uA (uA (uA f 57 z x) 58 z y) 59 z w) 60 z v) 61 z u) 57 k = (if k = z then x else f 57 k) ∧ (uA (uA (uA (uA (uA f 57 z x) 58 z y) 59 z w) 60 z v) 61 z u) 58 k = (if k = z then y else f 58 k) ∧ (uA (uA (uA (uA (uA f 57 z x) 58 z y) 59 z w) 60 z v) 61 z u) 59 k = (if k = z then w else f 59 k) ∧ (uA (uA (uA (uA (uA f 57 z x) 58 z y) 59 z w) 60 z v) 61 z u) 60 k = (if k = z then v else f 60 k) ∧ (uA (uA (uA (uA (uA f 57 z x) 58 z y) 59 z w) 60 z v) 61 z u) 61 k = (if k = z then u else f 61 k) := by
  refine ⟨?_, ?_, ?_, ?_, ?_⟩ <;> (unfold uA upd; simp)
theorem facR.add {T : Tx} {s s' F : St} {z : Nat} {x y w : Int32} {b : Bool} (h : facR T s F) (hz : F.1 0 = nI z ∧ nat (F.1 0) = z) (h24 : z < 24) (hx : okN x 61) (hy : okN y (nat (T.1.1 0))) (hw : okN w 60)
    (e1 : s'.1 55 = nI (z + 1)) (e2 : s'.1 56 = s.1 56) (e3 : s'.2.1 = uA (uA (uA (uA (uA s.2.1 57 z x) 58 z y) 59 z w) 60 z (bI b)) 61 z (-1)) : facR T s' (fAdd F z x y w (bI b)) := by
  obtain ⟨h1, h2, h3, h4, h5, h6⟩ := h
  have hn : nat (nI (z + 1)) = z + 1 := nI_clamp (by omega)
  refine ⟨okN.of (n := z + 1) rfl (by omega) (by decide), e1, e2.trans h3, ?_, fun k hk => ?_, fun k hk => ?_⟩
  · rcases h4 with q | ⟨k, q, ql⟩
    · exact Or.inl q
    · refine Or.inr ⟨k, q, ?_⟩
      show k ≤ nat (nI (z + 1))
      rw [hn]; omega
  · obtain ⟨a1, a2, a3, a4, a5⟩ := fa5 (f := F.2.1) (z := z) (x := x) (y := y) (w := w) (v := bI b) (u := -1) k
    obtain ⟨b1, b2, b3, b4, b5⟩ := fa57 (f := s.2.1) (z := z) (x := x) (y := y) (w := w) (v := bI b) (u := -1) k
    obtain ⟨g1, g2, g3, g4, g5⟩ := h5 k hk
    rw [e3]
    show _ = (uA (uA (uA (uA (uA F.2.1 2 z x) 3 z y) 4 z w) 5 z (bI b)) 6 z (-1)) 2 k ∧ _ = (uA (uA (uA (uA (uA F.2.1 2 z x) 3 z y) 4 z w) 5 z (bI b)) 6 z (-1)) 3 k ∧ _ = (uA (uA (uA (uA (uA F.2.1 2 z x) 3 z y) 4 z w) 5 z (bI b)) 6 z (-1)) 4 k ∧ _ = (uA (uA (uA (uA (uA F.2.1 2 z x) 3 z y) 4 z w) 5 z (bI b)) 6 z (-1)) 5 k ∧ _ = (uA (uA (uA (uA (uA F.2.1 2 z x) 3 z y) 4 z w) 5 z (bI b)) 6 z (-1)) 6 k
    rw [a1, a2, a3, a4, a5, b1, b2, b3, b4, b5, g1, g2, g3, g4, g5]
    exact ⟨rfl, rfl, rfl, rfl, rfl⟩
  · obtain ⟨a1, a2, a3, a4, a5⟩ := fa5 (f := F.2.1) (z := z) (x := x) (y := y) (w := w) (v := bI b) (u := -1) k
    have hk2 : k < z + 1 := by
      have : nat ((fAdd F z x y w (bI b)).1 0) = z + 1 := hn
      omega
    show ((uA (uA (uA (uA (uA F.2.1 2 z x) 3 z y) 4 z w) 5 z (bI b)) 6 z (-1)) 6 k = (-1 : Int32) ∧ okN ((uA (uA (uA (uA (uA F.2.1 2 z x) 3 z y) 4 z w) 5 z (bI b)) 6 z (-1)) 3 k) _ ∧ okN ((uA (uA (uA (uA (uA F.2.1 2 z x) 3 z y) 4 z w) 5 z (bI b)) 6 z (-1)) 4 k) 60 ∧ okN ((uA (uA (uA (uA (uA F.2.1 2 z x) 3 z y) 4 z w) 5 z (bI b)) 6 z (-1)) 2 k) 61 ∧ ∃ b', (uA (uA (uA (uA (uA F.2.1 2 z x) 3 z y) 4 z w) 5 z (bI b)) 6 z (-1)) 5 k = bI b') ∨ okN ((uA (uA (uA (uA (uA F.2.1 2 z x) 3 z y) 4 z w) 5 z (bI b)) 6 z (-1)) 6 k) k
    rw [a1, a2, a3, a4, a5]
    by_cases e : k = z
    · rw [if_pos e, if_pos e, if_pos e, if_pos e, if_pos e]
      exact Or.inl ⟨rfl, hy, hw, hx, b, rfl⟩
    · rw [if_neg e, if_neg e, if_neg e, if_neg e, if_neg e]
      exact h6 k (by omega)
theorem facR.str {T : Tx} {s s' F : St} {z : Nat} {x : Int32} (h : facR T s F) (hz : F.1 0 = nI z ∧ nat (F.1 0) = z) (h24 : z < 24) (hx : okN x z)
    (e1 : s'.1 55 = nI (z + 1)) (e2 : s'.1 56 = s.1 56) (e3 : s'.2.1 = uA s.2.1 61 z x) : facR T s' (fStrike F z x) := by
  obtain ⟨h1, h2, h3, h4, h5, h6⟩ := h
  have hn : nat (nI (z + 1)) = z + 1 := nI_clamp (by omega)
  refine ⟨okN.of (n := z + 1) rfl (by omega) (by decide), e1, e2.trans h3, ?_, fun k hk => ?_, fun k hk => ?_⟩
  · rcases h4 with q | ⟨k, q, ql⟩
    · exact Or.inl q
    · refine Or.inr ⟨k, q, ?_⟩
      show k ≤ nat (nI (z + 1))
      rw [hn]; omega
  · obtain ⟨g1, g2, g3, g4, g5⟩ := h5 k hk
    rw [e3]
    show _ = uA F.2.1 6 z x 2 k ∧ _ = uA F.2.1 6 z x 3 k ∧ _ = uA F.2.1 6 z x 4 k ∧ _ = uA F.2.1 6 z x 5 k ∧ _ = uA F.2.1 6 z x 6 k
    rw [uA_miss (by omega), uA_miss (by omega), uA_miss (by omega), uA_miss (by omega), uA_miss (by omega), uA_miss (by omega), uA_miss (by omega), uA_miss (by omega), uA_at, uA_at, g1, g2, g3, g4, g5]
    exact ⟨rfl, rfl, rfl, rfl, rfl⟩
  · have hk2 : k < z + 1 := by
      have : nat ((fStrike F z x).1 0) = z + 1 := hn
      omega
    show (uA F.2.1 6 z x 6 k = (-1 : Int32) ∧ okN (uA F.2.1 6 z x 3 k) _ ∧ okN (uA F.2.1 6 z x 4 k) 60 ∧ okN (uA F.2.1 6 z x 2 k) 61 ∧ ∃ b', uA F.2.1 6 z x 5 k = bI b') ∨ okN (uA F.2.1 6 z x 6 k) k
    rw [uA_miss (k := 2) (by omega), uA_miss (k := 3) (by omega), uA_miss (k := 4) (by omega), uA_miss (k := 5) (by omega), uA_at]
    by_cases e : k = z
    · rw [if_pos e, e]
      exact Or.inr hx
    · rw [if_neg e]
      exact h6 k (by omega)
set_option maxRecDepth 100000 in
set_option maxHeartbeats 2000000 in
theorem see_M {d n0 a : Nat} {κ : Kd} {h0 : Hp} (hd : 2 ≤ d) {T : Tx} {s F c : St} {r : Nat} (hR : Rm T s r c) (hF : facR T s F) {x y w : Int32} {b : Bool} : MV MX12_see (d, 0, 0, n0, κ) a h0 s 0 [some (.ref a), some (.int (x)), some (.int (y)), some (.int (w)), some (.int (bI b))] [] (fun v s' => v = some (.int (aSeeV T F x y w)) ∧ facR T s' (aSeeF T F x y w b) ∧ frF s s') := by
  refine MV.aload_n dX12_see_0 rfl ?_
  refine MV.iconst (v := 0) dX12_see_1 (by decide) ?_
  refine MV.putf 0 fl_X12_148 dX12_see_2 (by decide) rfl (rfl) (rfl) C12_s0 ?_
  refine MV.iload_n dX12_see_5 rfl ?_
  refine MV.iconst (v := 1) dX12_see_6 (by decide) ?_
  refine MV.icmp_lt 40 dX12_see_7 (by decide) (fun c7 => ?_) (fun c7 => ?_)
  · skip
    have hA : aSeeB T F x y w = false := by
      unfold aSeeB
      rw [decide_eq_false (fun z => z c7)]; rfl
    refine MV.iconst (v := (-1)) dX12_see_40 (by decide) ?_
    refine MV.iret dX12_see_41 rfl ?_
    exact ⟨by rw [aSeeV, hA]; rfl, by unfold aSeeF; rw [hA]; exact hF, frF.i (by decide)⟩
  · skip
    refine MV.iload_n dX12_see_10 rfl ?_
    refine MV.bipush (v := 60) dX12_see_11 (by decide) ?_
    refine MV.icmp_gt 40 dX12_see_13 (by decide) (fun c13 => ?_) (fun c13 => ?_)
    · skip
      have d13 : decide (¬ 60 < x) = false := decide_eq_false (fun z => z c13)
      have hA : aSeeB T F x y w = false := by
        unfold aSeeB
        rw [d13, Bool.and_false]; rfl
      refine MV.iconst (v := (-1)) dX12_see_40 (by decide) ?_
      refine MV.iret dX12_see_41 rfl ?_
      exact ⟨by rw [aSeeV, hA]; rfl, by unfold aSeeF; rw [hA]; exact hF, frF.i (by decide)⟩
    · skip
      have q13 : ¬ 60 < x := c13
      refine MV.aload_n dX12_see_16 rfl ?_
      refine MV.iload_n dX12_see_17 rfl ?_
      refine MV.cV1 yoX12_isMan ml_X12_425 im_X12_isMan se_X12_isMan dX12_see_18 rfl (Nat.le_of_ble_eq_true rfl) (by omega) rfl (Nat.le_of_ble_eq_true rfl) (mIsMan_M (by omega)) (MV.rdK ?_)
      refine MV.if_eq 40 dX12_see_21 (by decide) (fun c21 => ?_) (fun c21 => ?_)
      · skip
        have d21 : isManB (T.1.1 0) y = false := by rw [hR.1.1.2.1]; exact bI_f c21
        have hA : aSeeB T F x y w = false := by
          unfold aSeeB
          rw [d21, Bool.and_false]; rfl
        refine MV.iconst (v := (-1)) dX12_see_40 (by decide) ?_
        refine MV.iret dX12_see_41 rfl ?_
        exact ⟨by rw [aSeeV, hA]; rfl, by unfold aSeeF; rw [hA]; exact hF, frF.i (by decide)⟩
      · skip
        have q21 : isManB (T.1.1 0) y = true := by rw [hR.1.1.2.1]; exact bI_t c21
        refine MV.iload_n dX12_see_24 rfl ?_
        refine MV.cS1 yoX12_isInch ml_X12_428 st_X12_isInch dX12_see_25 (Nat.le_of_ble_eq_true rfl) (by omega) rfl (Nat.le_of_ble_eq_true rfl) (fun h H => mIsInch_V (by omega)) ?_
        refine MV.if_eq 40 dX12_see_28 (by decide) (fun c28 => ?_) (fun c28 => ?_)
        · skip
          have d28 : isInchB w = false := bI_f c28
          have hA : aSeeB T F x y w = false := by
            unfold aSeeB
            rw [d28, Bool.and_false]; rfl
          refine MV.iconst (v := (-1)) dX12_see_40 (by decide) ?_
          refine MV.iret dX12_see_41 rfl ?_
          exact ⟨by rw [aSeeV, hA]; rfl, by unfold aSeeF; rw [hA]; exact hF, frF.i (by decide)⟩
        · skip
          have q28 : isInchB w = true := bI_t c28
          refine MV.aload_n dX12_see_31 rfl ?_
          refine MV.getf 55 fl_X12_307 dX12_see_32 (by decide) rfl ?_
          refine MV.bipush (v := 24) dX12_see_35 (by decide) ?_
          refine MV.icmp_ne 42 dX12_see_37 (by decide) (fun c37 => ?_) (fun c37 => ?_)
          · skip
            have h24 : ¬ F.1 0 = 24 := fun z => c37 (hF.2.1.trans z)
            have hA : aSeeB T F x y w = true := by
              unfold aSeeB
              rw [decide_eq_true c7, decide_eq_true q13, q21, q28, decide_eq_true h24]; rfl
            obtain ⟨hz1, hz2⟩ := hF.sz h24
            have e55 : s.1 55 = nI (nat (F.1 0)) := hF.2.1.trans hz1
            obtain ⟨p, rfl, hp, hp6⟩ := isMan_of hR.1 (by rw [← hR.1.1.2.1]; exact q21)
            obtain ⟨i, rfl, hi⟩ := isInch_of q28
            obtain ⟨t, ht31, rfl⟩ := nI_of (fun z => c7 (Int32.lt_trans z (by decide)))
            have ht : t ≤ 60 := Nat.not_lt.mp fun z => q13 (nI_lt (a := 60) z ht31)
            refine MV.aload_n dX12_see_42 rfl ?_
            refine MV.getf 57 fl_X12_120 dX12_see_43 (by decide) rfl ?_
            refine MV.aload_n dX12_see_46 rfl ?_
            refine MV.getf 55 fl_X12_307 dX12_see_47 (by decide) rfl ?_
            refine MV.iload_n dX12_see_50 rfl ?_
            refine MV.ast C12_in57 dX12_see_51 (e55) (hz2) (by decide) ?_
            refine MV.aload_n dX12_see_52 rfl ?_
            refine MV.getf 58 fl_X12_123 dX12_see_53 (by decide) rfl ?_
            refine MV.aload_n dX12_see_56 rfl ?_
            refine MV.getf 55 fl_X12_307 dX12_see_57 (by decide) rfl ?_
            refine MV.iload_n dX12_see_60 rfl ?_
            refine MV.ast C12_in58 dX12_see_61 (e55) (hz2) (by decide) ?_
            refine MV.aload_n dX12_see_62 rfl ?_
            refine MV.getf 59 fl_X12_126 dX12_see_63 (by decide) rfl ?_
            refine MV.aload_n dX12_see_66 rfl ?_
            refine MV.getf 55 fl_X12_307 dX12_see_67 (by decide) rfl ?_
            refine MV.iload_n dX12_see_70 rfl ?_
            refine MV.ast C12_in59 dX12_see_71 (e55) (hz2) (by decide) ?_
            refine MV.aload_n dX12_see_72 rfl ?_
            refine MV.getf 60 fl_X12_129 dX12_see_73 (by decide) rfl ?_
            refine MV.aload_n dX12_see_76 rfl ?_
            refine MV.getf 55 fl_X12_307 dX12_see_77 (by decide) rfl ?_
            refine MV.iload dX12_see_80 rfl ?_
            refine MV.zst C12_in60 dX12_see_82 (e55) (hz2) (by decide) (by cases b <;> decide) ?_
            refine MV.aload_n dX12_see_83 rfl ?_
            refine MV.getf 61 fl_X12_133 dX12_see_84 (by decide) rfl ?_
            refine MV.aload_n dX12_see_87 rfl ?_
            refine MV.getf 55 fl_X12_307 dX12_see_88 (by decide) rfl ?_
            refine MV.iconst (v := (-1)) dX12_see_91 (by decide) ?_
            refine MV.ast C12_in61 dX12_see_92 (e55) (hz2) (by decide) ?_
            refine MV.aload_n dX12_see_93 rfl ?_
            refine MV.dup dX12_see_94 rfl ?_
            refine MV.getf 55 fl_X12_307 dX12_see_95 (by decide) rfl ?_
            refine MV.iconst (v := 1) dX12_see_98 (by decide) ?_
            refine MV.iadd dX12_see_99 ?_
            refine MV.putf 55 fl_X12_307 dX12_see_100 (by decide) rfl (rfl) (rfl) C12_s55 ?_
            refine MV.aload_n dX12_see_103 rfl ?_
            refine MV.getf 55 fl_X12_307 dX12_see_104 (by decide) rfl ?_
            refine MV.iconst (v := 1) dX12_see_107 (by decide) ?_
            refine MV.isub dX12_see_108 ?_
            refine MV.eqi (F.1 0) ((show s.1 55 + 1 - 1 = s.1 55 from Int32.add_sub_cancel _ _).trans hF.2.1) ?_
            refine MV.iret dX12_see_109 rfl ?_
            refine ⟨by rw [aSeeV, if_pos hA], ?_, ?_⟩
            · unfold aSeeF
              rw [if_pos hA]
              refine hF.add ⟨hz1, rfl⟩ hz2 (okN.of (n := t) rfl (by omega) (by decide)) (okN.of (n := p) rfl hp (by have := hR.1.1.1.2; rw [hR.1.1.2.1]; omega)) (okN.of (n := i) rfl hi (by decide)) ?_ rfl rfl
              exact (congrArg (· + 1) e55).trans (nI_1 _)
            · exact (((((((frF.i (by decide)).tr (frF.a (by decide))).tr (frF.a (by decide))).tr (frF.a (by decide))).tr (frF.a (by decide))).tr (frF.a (by decide))).tr (frF.i (by decide)))
          · skip
            have h24 : F.1 0 = 24 := hF.2.1.symm.trans c37
            have d37 : decide (¬ F.1 0 = 24) = false := decide_eq_false (fun z => z h24)
            have hA : aSeeB T F x y w = false := by
              unfold aSeeB
              rw [d37, Bool.and_false]
            refine MV.iconst (v := (-1)) dX12_see_40 (by decide) ?_
            refine MV.iret dX12_see_41 rfl ?_
            exact ⟨by rw [aSeeV, hA]; rfl, by unfold aSeeF; rw [hA]; exact hF, frF.i (by decide)⟩
set_option maxRecDepth 100000 in
set_option maxHeartbeats 2000000 in
theorem strike_M {d n0 a : Nat} {κ : Kd} {h0 : Hp} (hd : 2 ≤ d) {T : Tx} {s F : St} (hF : facR T s F) {x : Int32} : MV MX12_strike (d, 0, 0, n0, κ) a h0 s 0 [some (.ref a), some (.int (x))] [] (fun v s' => v = some (.int (aStrV F x)) ∧ facR T s' (aStrF F x) ∧ frF s s') := by
  refine MV.aload_n dX12_strike_0 rfl ?_
  refine MV.iconst (v := 0) dX12_strike_1 (by decide) ?_
  refine MV.putf 0 fl_X12_148 dX12_strike_2 (by decide) rfl (rfl) (rfl) C12_s0 ?_
  refine MV.iload_n dX12_strike_5 rfl ?_
  refine MV.if_lt 26 dX12_strike_6 (by decide) (fun c6 => ?_) (fun c6 => ?_)
  · skip
    have hA : aStrB F x = false := by
      unfold aStrB
      rw [decide_eq_false (fun z => z c6)]; rfl
    refine MV.iconst (v := (-1)) dX12_strike_26 (by decide) ?_
    refine MV.iret dX12_strike_27 rfl ?_
    exact ⟨by rw [aStrV, hA]; rfl, by unfold aStrF; rw [hA]; exact hF, frF.i (by decide)⟩
  · skip
    refine MV.iload_n dX12_strike_9 rfl ?_
    refine MV.aload_n dX12_strike_10 rfl ?_
    refine MV.getf 55 fl_X12_307 dX12_strike_11 (by decide) rfl ?_
    refine MV.icmp_ge 26 dX12_strike_14 (by decide) (fun c14 => ?_) (fun c14 => ?_)
    · skip
      have d14 : decide (¬ F.1 0 ≤ x) = false := decide_eq_false (fun z => z (by rw [← hF.2.1]; exact c14))
      have hA : aStrB F x = false := by
        unfold aStrB
        rw [d14, Bool.and_false]; rfl
      refine MV.iconst (v := (-1)) dX12_strike_26 (by decide) ?_
      refine MV.iret dX12_strike_27 rfl ?_
      exact ⟨by rw [aStrV, hA]; rfl, by unfold aStrF; rw [hA]; exact hF, frF.i (by decide)⟩
    · skip
      have q14 : ¬ F.1 0 ≤ x := by rw [← hF.2.1]; exact c14
      refine MV.aload_n dX12_strike_17 rfl ?_
      refine MV.getf 55 fl_X12_307 dX12_strike_18 (by decide) rfl ?_
      refine MV.bipush (v := 24) dX12_strike_21 (by decide) ?_
      refine MV.icmp_ne 28 dX12_strike_23 (by decide) (fun c23 => ?_) (fun c23 => ?_)
      · skip
        have h24 : ¬ F.1 0 = 24 := fun z => c23 (hF.2.1.trans z)
        have hA : aStrB F x = true := by
          unfold aStrB
          rw [decide_eq_true c6, decide_eq_true q14, decide_eq_true h24]; rfl
        obtain ⟨hz1, hz2⟩ := hF.sz h24
        have e55 : s.1 55 = nI (nat (F.1 0)) := hF.2.1.trans hz1
        obtain ⟨t, ht31, rfl⟩ := nI_of c6
        have ht : t < nat (F.1 0) := Nat.not_le.mp fun z => q14 (by rw [hz1]; exact nI_le z ht31)
        refine MV.aload_n dX12_strike_28 rfl ?_
        refine MV.getf 61 fl_X12_133 dX12_strike_29 (by decide) rfl ?_
        refine MV.aload_n dX12_strike_32 rfl ?_
        refine MV.getf 55 fl_X12_307 dX12_strike_33 (by decide) rfl ?_
        refine MV.iload_n dX12_strike_36 rfl ?_
        refine MV.ast C12_in61 dX12_strike_37 (e55) (hz2) (by decide) ?_
        refine MV.aload_n dX12_strike_38 rfl ?_
        refine MV.dup dX12_strike_39 rfl ?_
        refine MV.getf 55 fl_X12_307 dX12_strike_40 (by decide) rfl ?_
        refine MV.iconst (v := 1) dX12_strike_43 (by decide) ?_
        refine MV.iadd dX12_strike_44 ?_
        refine MV.putf 55 fl_X12_307 dX12_strike_45 (by decide) rfl (rfl) (rfl) C12_s55 ?_
        refine MV.aload_n dX12_strike_48 rfl ?_
        refine MV.getf 55 fl_X12_307 dX12_strike_49 (by decide) rfl ?_
        refine MV.iconst (v := 1) dX12_strike_52 (by decide) ?_
        refine MV.isub dX12_strike_53 ?_
        refine MV.eqi (F.1 0) ((show s.1 55 + 1 - 1 = s.1 55 from Int32.add_sub_cancel _ _).trans hF.2.1) ?_
        refine MV.iret dX12_strike_54 rfl ?_
        refine ⟨by rw [aStrV, if_pos hA], ?_, ?_⟩
        · unfold aStrF
          rw [if_pos hA]
          refine hF.str ⟨hz1, rfl⟩ hz2 (okN.of (n := t) rfl ht (by omega)) ?_ rfl rfl
          exact (congrArg (· + 1) e55).trans (nI_1 _)
        · exact (((frF.i (by decide)).tr (frF.a (by decide))).tr (frF.i (by decide)))
      · skip
        have h24 : F.1 0 = 24 := hF.2.1.symm.trans c23
        have d23 : decide (¬ F.1 0 = 24) = false := decide_eq_false (fun z => z h24)
        have hA : aStrB F x = false := by
          unfold aStrB
          rw [d23, Bool.and_false]
        refine MV.iconst (v := (-1)) dX12_strike_26 (by decide) ?_
        refine MV.iret dX12_strike_27 rfl ?_
        exact ⟨by rw [aStrV, hA]; rfl, by unfold aStrF; rw [hA]; exact hF, frF.i (by decide)⟩
theorem m1_of {x : Int32} (h : x < 0) (h2 : ¬ x < -1) : x = -1 := by
  have a : x.toInt < 0 := Int32.lt_iff_toInt_lt.mp h
  have b : ¬ x.toInt < (-1 : Int32).toInt := fun z => h2 (Int32.lt_iff_toInt_lt.mpr z)
  have e : (-1 : Int32).toInt = -1 := by decide
  exact Int32.toInt_inj.mp (by omega)
set_option maxRecDepth 100000 in
set_option maxHeartbeats 2000000 in
theorem known_M {d n0 a : Nat} {κ : Kd} {h0 : Hp} (hd : 2 ≤ d) {T : Tx} {s F : St} (hF : facR T s F) {x : Int32} : MV MX12_known (d, 0, 0, n0, κ) a h0 s 0 [some (.ref a), some (.int (x))] [] (fun v s' => v = some (.int (bI (aKnoB F x))) ∧ facR T s' (aKnoF F x) ∧ frF s s') := by
  refine MV.aload_n dX12_known_0 rfl ?_
  refine MV.iconst (v := 0) dX12_known_1 (by decide) ?_
  refine MV.putf 0 fl_X12_148 dX12_known_2 (by decide) rfl (rfl) (rfl) C12_s0 ?_
  refine MV.iload_n dX12_known_5 rfl ?_
  refine MV.iconst (v := (-1)) dX12_known_6 (by decide) ?_
  refine MV.icmp_lt 18 dX12_known_7 (by decide) (fun c7 => ?_) (fun c7 => ?_)
  · skip
    have hA : aKnoB F x = false := by
      unfold aKnoB
      rw [decide_eq_false (fun z => z c7), Bool.false_and]
    refine MV.iconst (v := bI false) dX12_known_18 (by decide) ?_
    refine MV.zret .boolean dX12_known_19 rfl (bI_n _) ?_
    exact ⟨by rw [hA], by unfold aKnoF; rw [hA]; exact hF, frF.i (by decide)⟩
  · skip
    refine MV.iload_n dX12_known_10 rfl ?_
    refine MV.aload_n dX12_known_11 rfl ?_
    refine MV.getf 55 fl_X12_307 dX12_known_12 (by decide) rfl ?_
    refine MV.icmp_le 20 dX12_known_15 (by decide) (fun c15 => ?_) (fun c15 => ?_)
    · skip
      have q15 : x ≤ F.1 0 := by rw [← hF.2.1]; exact c15
      have hA : aKnoB F x = true := by
        unfold aKnoB
        rw [decide_eq_true c7, decide_eq_true q15]; rfl
      refine MV.aload_n dX12_known_20 rfl ?_
      refine MV.iload_n dX12_known_21 rfl ?_
      refine MV.putf 56 fl_X12_117 dX12_known_22 (by decide) rfl (rfl) (rfl) C12_s56 ?_
      refine MV.iconst (v := bI true) dX12_known_25 (by decide) ?_
      refine MV.zret .boolean dX12_known_26 rfl (bI_n _) ?_
      refine ⟨by rw [hA], ?_, (frF.i (by decide)).tr (frF.i (by decide))⟩
      unfold aKnoF
      rw [if_pos hA]
      obtain ⟨h1, h2, h3, h4, h5, h6⟩ := hF
      refine ⟨h1, h2, rfl, ?_, h5, h6⟩
      show x = -1 ∨ ∃ k, x = nI k ∧ k ≤ nat (F.1 0)
      by_cases hx : x < 0
      · exact Or.inl (m1_of hx c7)
      · obtain ⟨t, ht31, rfl⟩ := nI_of hx
        refine Or.inr ⟨t, rfl, Nat.not_lt.mp fun z => ?_⟩
        rw [h1.1] at q15
        exact absurd q15 (Int32.not_le.mpr (nI_lt z ht31))
    · skip
      have q15 : ¬ x ≤ F.1 0 := by rw [← hF.2.1]; exact c15
      have d15 : decide (x ≤ F.1 0) = false := decide_eq_false q15
      have hA : aKnoB F x = false := by
        unfold aKnoB
        rw [d15, Bool.and_false]
      refine MV.iconst (v := bI false) dX12_known_18 (by decide) ?_
      refine MV.zret .boolean dX12_known_19 rfl (bI_n _) ?_
      exact ⟨by rw [hA], by unfold aKnoF; rw [hA]; exact hF, frF.i (by decide)⟩
