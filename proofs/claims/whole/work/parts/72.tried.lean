/-! The model: tried, chance -/
theorem relKT {T : Tx} {s : St} {k : Nat} {i : Int32} (hk : k < 5) (h1 : s.1 46 = if nI k = 0 then 5 else nI k) (h2 : s.1 47 = i) : relK T (kT (nI k) i) s false := by
  have h5 : k = 0 ∨ k = 1 ∨ k = 2 ∨ k = 3 ∨ k = 4 := by omega
  have e3 : mW (s.1 46) false T = fun c => (wAsB (s.1 46) (T.1.1 10), c) := by
    funext c
    rw [mW, if_neg (by decide)]
  have hw : ∀ c, windK 0 T c = (tWindy T.1, c) := fun c => by
    unfold windK
    rw [if_neg (by decide), if_neg (by decide), if_neg (by decide)]
  have hd : ∀ x : Int32, ¬ x = 1 → ¬ x = 5 → wAsB x (T.1.1 10) = tWindy T.1 := fun x a b => by
    unfold wAsB tWindy
    rw [decide_eq_false a, decide_eq_true b, Bool.false_or, Bool.true_and]
  refine ⟨fun z => absurd z (by decide), fun c => ?_, ?_, ?_, fun p hp => ?_⟩
  · rw [e3]
    rcases h5 with rfl | rfl | rfl | rfl | rfl
    · have h6 : s.1 46 = 5 := h1
      rw [h6, show kT (nI 0) i 1 = 2 from rfl, show wAsB 5 (T.1.1 10) = false by unfold wAsB; rw [show decide ((5 : Int32) = 1) = false by decide, show decide (¬ (5 : Int32) = 5) = false by decide]; rfl]
      unfold windK
      rw [if_neg (by decide), if_pos rfl]
    · have h6 : s.1 46 = 1 := h1
      rw [h6, show kT (nI 1) i 1 = 3 from rfl, show wAsB 1 (T.1.1 10) = true by unfold wAsB; rw [show decide ((1 : Int32) = 1) = true by decide, Bool.true_or]]
      unfold windK
      rw [if_neg (by decide), if_neg (by decide), if_pos rfl]
    · have h6 : s.1 46 = 2 := h1
      rw [h6, show kT (nI 2) i 1 = 0 from rfl, hw, hd 2 (by decide) (by decide)]
    · have h6 : s.1 46 = 3 := h1
      rw [h6, show kT (nI 3) i 1 = 0 from rfl, hw, hd 3 (by decide) (by decide)]
    · have h6 : s.1 46 = 4 := h1
      rw [h6, show kT (nI 4) i 1 = 0 from rfl, hw, hd 4 (by decide) (by decide)]
  · rw [h1]
    rcases h5 with rfl | rfl | rfl | rfl | rfl
    · exact (show (if nI 0 = 3 then (1 : Int32) else 0) = 0 ↔ ¬ (if nI 0 = 0 then (5 : Int32) else nI 0) = 3 by decide)
    · exact (show (if nI 1 = 3 then (1 : Int32) else 0) = 0 ↔ ¬ (if nI 1 = 0 then (5 : Int32) else nI 1) = 3 by decide)
    · exact (show (if nI 2 = 3 then (1 : Int32) else 0) = 0 ↔ ¬ (if nI 2 = 0 then (5 : Int32) else nI 2) = 3 by decide)
    · exact (show (if nI 3 = 3 then (1 : Int32) else 0) = 0 ↔ ¬ (if nI 3 = 0 then (5 : Int32) else nI 3) = 3 by decide)
    · exact (show (if nI 4 = 3 then (1 : Int32) else 0) = 0 ↔ ¬ (if nI 4 = 0 then (5 : Int32) else nI 4) = 3 by decide)
  · rw [h1]
    rcases h5 with rfl | rfl | rfl | rfl | rfl
    · exact (show (if nI 0 = 4 then (1 : Int32) else 0) = 0 ↔ ¬ (if nI 0 = 0 then (5 : Int32) else nI 0) = 4 by decide)
    · exact (show (if nI 1 = 4 then (1 : Int32) else 0) = 0 ↔ ¬ (if nI 1 = 0 then (5 : Int32) else nI 1) = 4 by decide)
    · exact (show (if nI 2 = 4 then (1 : Int32) else 0) = 0 ↔ ¬ (if nI 2 = 0 then (5 : Int32) else nI 2) = 4 by decide)
    · exact (show (if nI 3 = 4 then (1 : Int32) else 0) = 0 ↔ ¬ (if nI 3 = 0 then (5 : Int32) else nI 3) = 4 by decide)
    · exact (show (if nI 4 = 4 then (1 : Int32) else 0) = 0 ↔ ¬ (if nI 4 = 0 then (5 : Int32) else nI 4) = 4 by decide)
  · rw [h1, h2]
    have m1 := nI_m1 (p := p) (by omega)
    rcases h5 with rfl | rfl | rfl | rfl | rfl
    · rw [show kT (nI 0) i 2 = -1 from rfl]; exact ⟨fun z => absurd z m1, fun z => absurd z.1 (by decide)⟩
    · rw [show kT (nI 1) i 2 = -1 from rfl]; exact ⟨fun z => absurd z m1, fun z => absurd z.1 (by decide)⟩
    · rw [show kT (nI 2) i 2 = i from rfl]; exact ⟨fun z => ⟨by decide, z⟩, fun z => z.2⟩
    · rw [show kT (nI 3) i 2 = -1 from rfl]; exact ⟨fun z => absurd z m1, fun z => absurd z.1 (by decide)⟩
    · rw [show kT (nI 4) i 2 = -1 from rfl]; exact ⟨fun z => absurd z m1, fun z => absurd z.1 (by decide)⟩
theorem frX.i {s : St} {j : Nat} {x : Int32} {s' : St} (h : frX s s') (hx : s.1 j = x) : frX s (mI s' j x) := by
  refine ⟨fun q a b c => ?_, h.2.1, h.2.2.1, h.2.2.2⟩
  show upd s'.1 j x q = s.1 q
  unfold upd
  by_cases e : q = j
  · rw [if_pos e, e, hx]
  · rw [if_neg e]; exact h.1 q a b c
/-- as frX, but two ints -/
theorem frX.ii {s s1 s2 : St} {i j : Nat} {x y x' y' : Int32} (h0 : frX s s1) (h : frX (mI (mI s1 i x') j y') s2) (hij : i ≠ j) (hi0 : i ≠ 0) (hi : i ≠ 35) (hi2 : i ≠ 53) (hj0 : j ≠ 0) (hj : j ≠ 35) (hj2 : j ≠ 53) (hx : s.1 i = x) (hy : s.1 j = y) : frX s (mI (mI s2 i x) j y) := by
  refine ⟨fun q a b c => ?_, fun k a b c => (h.2.1 k a b c).trans (h0.2.1 k a b c), fun k q a b c => (h.2.2.1 k q a b c).trans (h0.2.2.1 k q a b c), fun k q a b c => (h.2.2.2 k q a b c).trans (h0.2.2.2 k q a b c)⟩
  show upd (upd s2.1 i x) j y q = s.1 q
  unfold upd
  by_cases e : q = j
  · rw [if_pos e, e, hy]
  · rw [if_neg e]
    by_cases e2 : q = i
    · rw [if_pos e2, e2, hx]
    · rw [if_neg e2, h.1 q a b c]
      show upd (upd s1.1 i x') j y' q = s.1 q
      rw [upd_ne e, upd_ne e2]
      exact h0.1 q a b c
theorem Rm.zz {T : Tx} {s c : St} {r : Nat} {x y : Int32} (h : Rm T s r c) : Rm T (mI (mI s 46 x) 47 y) r c := h
theorem lo1 {s : St} {T : Tx} {c : St} {r : Nat} (hR : Rm T s r c) : s.2.1 3 0 = nI (nat (T.1.1 0)) ∧ nat (T.1.1 0) ≤ 6 := by
  have h1 := hR.1.1.1
  rw [hR.1.1.2.1]
  exact ⟨h1.1, by have := h1.2; omega⟩
set_option maxRecDepth 100000 in
set_option maxHeartbeats 2000000 in
theorem tried_M {d n0 a : Nat} {κ : Kd} {h0 : Hp} (hd : 9 ≤ d) {T : Tx} {s c : St} (hqu : qui s) (hw : wfT T) (hR : Rm T s 0 c) {w i x : Int32} (h47 : s.1 47 = -1) : MV MX12_tried (d, 0, 0, n0, κ) a h0 s 0 [some (.ref a), some (.int (w)), some (.int (i)), some (.int (x)), none] [] (fun v s' => v = some (.int (aTried T c w i x)) ∧ frX s s') := by
  have h56 : ∀ (k n : Nat) (i : Int32), k < 5 → n ≤ 200 → aTried T c (nI k) i (nI n) = sumI (cLeft (hoursS T (kT (nI k) i) 63 true n c)) (nat (T.1.1 0)) → MV MX12_tried (d, 0, 0, n0, κ) a h0 (mI s 0 0) 56 [some (.ref a), some (.int (nI k)), some (.int (i)), some (.int (nI n)), none] [] (fun v s' => v = some (.int (aTried T c (nI k) i (nI n))) ∧ frX s s') := by
    intro k n i hk hn200 hA
    refine MV.aload_n dX12_tried_56 rfl ?_
    refine MV.iconst (v := nI 1) dX12_tried_57 (by decide) ?_
    refine MV.iconst (v := nI 0) dX12_tried_58 (by decide) ?_
    refine MV.cV2 yoX12_copies ml_X12_441 im_X12_copies se_X12_copies dX12_tried_59 rfl (Nat.le_of_ble_eq_true rfl) (by omega) rfl (Nat.le_of_ble_eq_true rfl) (copies_M (r := 1) (q := 0) (by omega) (by decide) (by decide) (by decide)) ?_
    rintro _ s1 ⟨rfl, f1, h1, h2⟩
    obtain ⟨hR1, hR0⟩ := (Rm.z (x := 0) hR).copy1 f1 h1 h2
    have fx1 : frX s s1 := frX.z.tr (frX.r1 f1)
    have q46 : s1.1 46 = 0 := (hqu.fr fx1).1
    refine MV.aload_n dX12_tried_62 rfl ?_
    refine MV.iload_n dX12_tried_63 rfl ?_
    refine MV.if_ne 71 dX12_tried_64 (by decide) (fun c64 => ?_) (fun c64 => ?_)
    · skip
      have hv5 : (if nI k = 0 then (5 : Int32) else nI k) = nI k := if_neg c64
      refine MV.iload_n dX12_tried_71 rfl ?_
      refine MV.putf 46 fl_X12_375 dX12_tried_72 (by decide) rfl (rfl) (rfl) C12_s46 ?_
      refine MV.aload_n dX12_tried_75 rfl ?_
      refine MV.iload_n dX12_tried_76 rfl ?_
      refine MV.putf 47 fl_X12_99 dX12_tried_77 (by decide) rfl (rfl) (rfl) C12_s47 ?_
      refine MV.aload_n dX12_tried_80 rfl ?_
      refine MV.iload_n dX12_tried_81 rfl ?_
      refine MV.cV1 yoX12_goesOn ml_X12_450 im_X12_goesOn se_X12_goesOn dX12_tried_82 rfl (Nat.le_of_ble_eq_true rfl) (by omega) rfl (Nat.le_of_ble_eq_true rfl) (goesOn_M (T := T) (k := kT (nI k) i) (c := c) (n := n) (by omega) (by omega) hw (Rm.zz (s := s1) hR1) (relKT (i := i) hk (by rw [hv5]; rfl) rfl)) ?_
      rintro _ s2 ⟨rfl, hR3, f2⟩
      have fx3 := frX.ii fx1 (frX.r1 f2) (by decide) (by decide) (by decide) (by decide) (by decide) (by decide) (by decide) hqu.1 h47
      have hn0 := lo1 hR3
      refine MV.aload_n dX12_tried_85 rfl ?_
      refine MV.iconst (v := 0) dX12_tried_86 (by decide) ?_
      refine MV.putf 46 fl_X12_375 dX12_tried_87 (by decide) rfl (rfl) (rfl) C12_s46 ?_
      refine MV.aload_n dX12_tried_90 rfl ?_
      refine MV.iconst (v := (-1)) dX12_tried_91 (by decide) ?_
      refine MV.putf 47 fl_X12_99 dX12_tried_92 (by decide) rfl (rfl) (rfl) C12_s47 ?_
      refine MV.aload_n dX12_tried_95 rfl ?_
      refine MV.iconst (v := nI 1) dX12_tried_96 (by decide) ?_
      refine MV.cV1 yoX12_leftAll ml_X12_526 im_X12_leftAll se_X12_leftAll dX12_tried_97 rfl (Nat.le_of_ble_eq_true rfl) (by omega) rfl (Nat.le_of_ble_eq_true rfl) (leftAll_M (r := 1) (by omega) (by decide) hn0.1 hn0.2) (MV.rdK ?_)
      refine MV.iret dX12_tried_100 rfl ?_
      exact ⟨by rw [hA]; exact congrArg (fun z => some (Value.int z)) (sumI_congr _ (fun p hp => (Rm.zz (s := s2) hR3).2.1.left hR3.1 hp |>.1)), fx3⟩
    · skip
      have hv5 : (if nI k = 0 then (5 : Int32) else nI k) = 5 := if_pos c64
      refine MV.iconst (v := 5) dX12_tried_67 (by decide) ?_
      refine MV.goto 72 dX12_tried_68 (by decide) ?_
      refine MV.putf 46 fl_X12_375 dX12_tried_72 (by decide) rfl (rfl) (rfl) C12_s46 ?_
      refine MV.aload_n dX12_tried_75 rfl ?_
      refine MV.iload_n dX12_tried_76 rfl ?_
      refine MV.putf 47 fl_X12_99 dX12_tried_77 (by decide) rfl (rfl) (rfl) C12_s47 ?_
      refine MV.aload_n dX12_tried_80 rfl ?_
      refine MV.iload_n dX12_tried_81 rfl ?_
      refine MV.cV1 yoX12_goesOn ml_X12_450 im_X12_goesOn se_X12_goesOn dX12_tried_82 rfl (Nat.le_of_ble_eq_true rfl) (by omega) rfl (Nat.le_of_ble_eq_true rfl) (goesOn_M (T := T) (k := kT (nI k) i) (c := c) (n := n) (by omega) (by omega) hw (Rm.zz (s := s1) hR1) (relKT (i := i) hk (by rw [hv5]; rfl) rfl)) ?_
      rintro _ s2 ⟨rfl, hR3, f2⟩
      have fx3 := frX.ii fx1 (frX.r1 f2) (by decide) (by decide) (by decide) (by decide) (by decide) (by decide) (by decide) hqu.1 h47
      have hn0 := lo1 hR3
      refine MV.aload_n dX12_tried_85 rfl ?_
      refine MV.iconst (v := 0) dX12_tried_86 (by decide) ?_
      refine MV.putf 46 fl_X12_375 dX12_tried_87 (by decide) rfl (rfl) (rfl) C12_s46 ?_
      refine MV.aload_n dX12_tried_90 rfl ?_
      refine MV.iconst (v := (-1)) dX12_tried_91 (by decide) ?_
      refine MV.putf 47 fl_X12_99 dX12_tried_92 (by decide) rfl (rfl) (rfl) C12_s47 ?_
      refine MV.aload_n dX12_tried_95 rfl ?_
      refine MV.iconst (v := nI 1) dX12_tried_96 (by decide) ?_
      refine MV.cV1 yoX12_leftAll ml_X12_526 im_X12_leftAll se_X12_leftAll dX12_tried_97 rfl (Nat.le_of_ble_eq_true rfl) (by omega) rfl (Nat.le_of_ble_eq_true rfl) (leftAll_M (r := 1) (by omega) (by decide) hn0.1 hn0.2) (MV.rdK ?_)
      refine MV.iret dX12_tried_100 rfl ?_
      exact ⟨by rw [hA]; exact congrArg (fun z => some (Value.int z)) (sumI_congr _ (fun p hp => (Rm.zz (s := s2) hR3).2.1.left hR3.1 hp |>.1)), fx3⟩
  refine MV.aload_n dX12_tried_0 rfl ?_
  refine MV.iconst (v := 0) dX12_tried_1 (by decide) ?_
  refine MV.putf 0 fl_X12_148 dX12_tried_2 (by decide) rfl (rfl) (rfl) C12_s0 ?_
  refine MV.iload_n dX12_tried_5 rfl ?_
  refine MV.iconst (v := 2) dX12_tried_6 (by decide) ?_
  refine MV.icmp_ne 18 dX12_tried_7 (by decide) (fun c7 => ?_) (fun c7 => ?_)
  · skip
    refine MV.iload_n dX12_tried_18 rfl ?_
    refine MV.if_lt 35 dX12_tried_19 (by decide) (fun c19 => ?_) (fun c19 => ?_)
    · skip
      have hA : aTried T c w i x = -1 := by rw [aTried, if_neg (fun z => z.1 c19)]
      refine MV.iconst (v := 0) dX12_tried_35 (by decide) ?_
      refine MV.istore dX12_tried_36 (by decide) rfl ?_
      refine MV.iload dX12_tried_38 rfl ?_
      refine MV.if_eq 54 dX12_tried_40 (by decide) (fun _ => ?_) (fun z => absurd (rfl) z)
      refine MV.iconst (v := (-1)) dX12_tried_54 (by decide) ?_
      refine MV.iret dX12_tried_55 rfl ?_
      exact ⟨by rw [hA], frX.z⟩
    · skip
      refine MV.iload_n dX12_tried_22 rfl ?_
      refine MV.iconst (v := 4) dX12_tried_23 (by decide) ?_
      refine MV.icmp_gt 35 dX12_tried_24 (by decide) (fun c24 => ?_) (fun c24 => ?_)
      · skip
        have hA : aTried T c w i x = -1 := by rw [aTried, if_neg (fun z => z.2.1 c24)]
        refine MV.iconst (v := 0) dX12_tried_35 (by decide) ?_
        refine MV.istore dX12_tried_36 (by decide) rfl ?_
        refine MV.iload dX12_tried_38 rfl ?_
        refine MV.if_eq 54 dX12_tried_40 (by decide) (fun _ => ?_) (fun z => absurd (rfl) z)
        refine MV.iconst (v := (-1)) dX12_tried_54 (by decide) ?_
        refine MV.iret dX12_tried_55 rfl ?_
        exact ⟨by rw [hA], frX.z⟩
      · skip
        have q24 : ¬ 4 < w := c24
        refine MV.iload_n dX12_tried_27 rfl ?_
        refine MV.if_ne 35 dX12_tried_28 (by decide) (fun c28 => ?_) (fun c28 => ?_)
        · skip
          have hA : aTried T c w i x = -1 := by rw [aTried, if_neg (fun z => by have := z.2.2.2.2; rw [if_neg c7] at this; exact c28 this)]
          refine MV.iconst (v := 0) dX12_tried_35 (by decide) ?_
          refine MV.istore dX12_tried_36 (by decide) rfl ?_
          refine MV.iload dX12_tried_38 rfl ?_
          refine MV.if_eq 54 dX12_tried_40 (by decide) (fun _ => ?_) (fun z => absurd (rfl) z)
          refine MV.iconst (v := (-1)) dX12_tried_54 (by decide) ?_
          refine MV.iret dX12_tried_55 rfl ?_
          exact ⟨by rw [hA], frX.z⟩
        · skip
          refine MV.iconst (v := 1) dX12_tried_31 (by decide) ?_
          refine MV.goto 36 dX12_tried_32 (by decide) ?_
          refine MV.istore dX12_tried_36 (by decide) rfl ?_
          refine MV.iload dX12_tried_38 rfl ?_
          refine MV.if_eq 54 dX12_tried_40 (by decide) (fun z => absurd z (show ¬ (1 : Int32) = 0 by decide)) (fun _ => ?_)
          refine MV.iload_n dX12_tried_43 rfl ?_
          refine MV.if_lt 54 dX12_tried_44 (by decide) (fun c44 => ?_) (fun c44 => ?_)
          · skip
            refine MV.iconst (v := (-1)) dX12_tried_54 (by decide) ?_
            refine MV.iret dX12_tried_55 rfl ?_
            exact ⟨by rw [aTried, if_neg (fun z => z.2.2.1 c44)], frX.z⟩
          · skip
            refine MV.iload_n dX12_tried_47 rfl ?_
            refine MV.sipush (v := 200) dX12_tried_48 (by decide) ?_
            refine MV.icmp_le 56 dX12_tried_51 (by decide) (fun c51 => ?_) (fun c51 => ?_)
            · skip
              have q51 : ¬ 200 < x := Int32.not_lt.mpr c51
              obtain ⟨n, hn31, rfl⟩ := nI_of c44
              have hn200 : n ≤ 200 := Nat.not_lt.mp fun z => q51 (nI_lt (a := 200) z hn31)
              have hnn : nat (nI n) = n := nI_clamp hn31
              obtain ⟨k, hk31, rfl⟩ := nI_of c19
              have hk4 : k ≤ 4 := Nat.not_lt.mp fun z => c24 (nI_lt (a := 4) z hk31)
              refine MV.weak [some (.ref a), some (.int (nI k)), some (.int (i)), some (.int (nI n)), none] (by simp [leL, sto1, sto2, k2c]) ?_
              exact h56 k n i (by omega) hn200 (by rw [aTried, if_pos ⟨c19, c24, c44, q51, by rw [if_neg c7]; exact c28⟩, hnn])
            · skip
              have q51 : 200 < x := Int32.not_le.mp c51
              refine MV.iconst (v := (-1)) dX12_tried_54 (by decide) ?_
              refine MV.iret dX12_tried_55 rfl ?_
              exact ⟨by rw [aTried, if_neg (fun z => z.2.2.2.1 q51)], frX.z⟩
  · skip
    subst c7
    refine MV.aload_n dX12_tried_10 rfl ?_
    refine MV.iload_n dX12_tried_11 rfl ?_
    refine MV.cV1 yoX12_isMan ml_X12_425 im_X12_isMan se_X12_isMan dX12_tried_12 rfl (Nat.le_of_ble_eq_true rfl) (by omega) rfl (Nat.le_of_ble_eq_true rfl) (mIsMan_M (by omega)) (MV.rdK ?_)
    refine MV.goto 36 dX12_tried_15 (by decide) ?_
    refine MV.istore dX12_tried_36 (by decide) rfl ?_
    refine MV.iload dX12_tried_38 rfl ?_
    refine MV.if_eq 54 dX12_tried_40 (by decide) (fun c40 => ?_) (fun c40 => ?_)
    · skip
      refine MV.iconst (v := (-1)) dX12_tried_54 (by decide) ?_
      refine MV.iret dX12_tried_55 rfl ?_
      exact ⟨by rw [aTried, if_neg (fun z => by have := z.2.2.2.2; rw [if_pos rfl, hR.1.1.2.1, show isManB (s.2.1 3 0) i = false from bI_f c40] at this; cases this)], frX.z⟩
    · skip
      refine MV.iload_n dX12_tried_43 rfl ?_
      refine MV.if_lt 54 dX12_tried_44 (by decide) (fun c44 => ?_) (fun c44 => ?_)
      · skip
        refine MV.iconst (v := (-1)) dX12_tried_54 (by decide) ?_
        refine MV.iret dX12_tried_55 rfl ?_
        exact ⟨by rw [aTried, if_neg (fun z => z.2.2.1 c44)], frX.z⟩
      · skip
        refine MV.iload_n dX12_tried_47 rfl ?_
        refine MV.sipush (v := 200) dX12_tried_48 (by decide) ?_
        refine MV.icmp_le 56 dX12_tried_51 (by decide) (fun c51 => ?_) (fun c51 => ?_)
        · skip
          have q51 : ¬ 200 < x := Int32.not_lt.mpr c51
          obtain ⟨n, hn31, rfl⟩ := nI_of c44
          have hn200 : n ≤ 200 := Nat.not_lt.mp fun z => q51 (nI_lt (a := 200) z hn31)
          have hnn : nat (nI n) = n := nI_clamp hn31
          refine MV.weak [some (.ref a), some (.int (2)), some (.int (i)), some (.int (nI n)), none] (by simp [leL, sto1, sto2, k2c]) ?_
          exact h56 2 n i (by decide) hn200 (by rw [aTried, if_pos ⟨by decide, by decide, c44, q51, by rw [if_pos (show nI 2 = 2 by decide), hR.1.1.2.1]; exact bI_t c40⟩, hnn]; try rfl)
        · skip
          have q51 : 200 < x := Int32.not_le.mp c51
          refine MV.iconst (v := (-1)) dX12_tried_54 (by decide) ?_
          refine MV.iret dX12_tried_55 rfl ?_
          exact ⟨by rw [aTried, if_neg (fun z => z.2.2.2.1 q51)], frX.z⟩
set_option maxRecDepth 100000 in
set_option maxHeartbeats 4000000 in
theorem chance_M {d n0 a : Nat} {κ : Kd} {h0 : Hp} (hd : 9 ≤ d) {T : Tx} {s c : St} (hqu : qui s) (hw : wfT T) (hR : Rm T s 0 c) {x w z y : Int32} : MV MX12_chance (d, 0, 0, n0, κ) a h0 s 0 [some (.ref a), some (.int (x)), some (.int (w)), some (.int (z)), some (.int (y)), none, none, none, none] [] (fun v s' => v = some (.int (aChance T c x w z y)) ∧ frX s s') := by
  refine MV.aload_n dX12_chance_0 rfl ?_
  refine MV.iconst (v := 0) dX12_chance_1 (by decide) ?_
  refine MV.putf 0 fl_X12_148 dX12_chance_2 (by decide) rfl (rfl) (rfl) C12_s0 ?_
  refine MV.iload_n dX12_chance_5 rfl ?_
  refine MV.if_lt 40 dX12_chance_6 (by decide) (fun c6 => ?_) (fun c6 => ?_)
  · skip
    have hA : aChance T c x w z y = -1 := by rw [aChance, if_neg (fun q => q.1 c6)]
    refine MV.iconst (v := (-1)) dX12_chance_40 (by decide) ?_
    refine MV.iret dX12_chance_41 rfl ?_
    exact ⟨by rw [hA], frX.z⟩
  · skip
    refine MV.iload_n dX12_chance_9 rfl ?_
    refine MV.iconst (v := 1) dX12_chance_10 (by decide) ?_
    refine MV.icmp_lt 40 dX12_chance_11 (by decide) (fun c11 => ?_) (fun c11 => ?_)
    · skip
      have hA : aChance T c x w z y = -1 := by rw [aChance, if_neg (fun q => q.2.1 c11)]
      refine MV.iconst (v := (-1)) dX12_chance_40 (by decide) ?_
      refine MV.iret dX12_chance_41 rfl ?_
      exact ⟨by rw [hA], frX.z⟩
    · skip
      refine MV.iload_n dX12_chance_14 rfl ?_
      refine MV.bipush (v := 99) dX12_chance_15 (by decide) ?_
      refine MV.icmp_gt 40 dX12_chance_17 (by decide) (fun c17 => ?_) (fun c17 => ?_)
      · skip
        have hA : aChance T c x w z y = -1 := by rw [aChance, if_neg (fun q => q.2.2.1 c17)]
        refine MV.iconst (v := (-1)) dX12_chance_40 (by decide) ?_
        refine MV.iret dX12_chance_41 rfl ?_
        exact ⟨by rw [hA], frX.z⟩
      · skip
        have q17 : ¬ 99 < w := c17
        obtain ⟨n, hn31, rfl⟩ := nI_of (fun q => c11 (Int32.lt_trans q (by decide)))
        have hn99 : n ≤ 99 := Nat.not_lt.mp fun q => c17 (nI_lt (a := 99) q hn31)
        have hnn : nat (nI n) = n := nI_clamp hn31
        refine MV.aload_n dX12_chance_20 rfl ?_
        refine MV.iload_n dX12_chance_21 rfl ?_
        refine MV.cV1 yoX12_isMan ml_X12_425 im_X12_isMan se_X12_isMan dX12_chance_22 rfl (Nat.le_of_ble_eq_true rfl) (by omega) rfl (Nat.le_of_ble_eq_true rfl) (mIsMan_M (by omega)) (MV.rdK ?_)
        refine MV.if_eq 40 dX12_chance_25 (by decide) (fun c25 => ?_) (fun c25 => ?_)
        · skip
          have hno := noMan hR.1 c25
          have hA : aChance T c x (nI n) z y = -1 := by rw [aChance, if_neg (fun q => hno q.2.2.2.1)]
          refine MV.iconst (v := (-1)) dX12_chance_40 (by decide) ?_
          refine MV.iret dX12_chance_41 rfl ?_
          exact ⟨by rw [hA], frX.z⟩
        · skip
          obtain ⟨hman, p, rfl, hp, hp6, hnat⟩ := yesMan hR.1 c25
          refine MV.iload dX12_chance_28 rfl ?_
          refine MV.if_lt 40 dX12_chance_30 (by decide) (fun c30 => ?_) (fun c30 => ?_)
          · skip
            have hA : aChance T c x (nI n) (nI p) y = -1 := by rw [aChance, if_neg (fun q => q.2.2.2.2.1 c30)]
            refine MV.iconst (v := (-1)) dX12_chance_40 (by decide) ?_
            refine MV.iret dX12_chance_41 rfl ?_
            exact ⟨by rw [hA], frX.z⟩
          · skip
            refine MV.iload dX12_chance_33 rfl ?_
            refine MV.bipush (v := 60) dX12_chance_35 (by decide) ?_
            refine MV.icmp_le 42 dX12_chance_37 (by decide) (fun c37 => ?_) (fun c37 => ?_)
            · skip
              have q37 : ¬ 60 < y := Int32.not_lt.mpr c37
              refine MV.iload_n dX12_chance_42 rfl ?_
              refine MV.istore dX12_chance_43 (by decide) rfl ?_
              refine MV.iconst (v := 0) dX12_chance_45 (by decide) ?_
              refine MV.istore dX12_chance_46 (by decide) rfl ?_
              refine MV.iconst (v := nI 0) dX12_chance_48 (by decide) ?_
              refine MV.istore dX12_chance_49 (by decide) rfl ?_
              suffices hL : ∀ (j i : Nat) (num cnt : Int32) (s2 : St), i + j = 10 → frX s s2 → chanceF T c n p y j num cnt = aChance T c x (nI n) (nI p) y → MV MX12_chance (d, 0, 0, n0, κ) a h0 s2 51 [some (.ref a), some (.int (x)), some (.int (nI n)), some (.int (nI p)), some (.int (y)), some (.int (num)), some (.int (cnt)), some (.int (nI i)), none] [] (fun v s' => v = some (.int (aChance T c x (nI n) (nI p) y)) ∧ frX s s') from
                hL 10 0 x 0 (mI s 0 0) (by omega) frX.z (by rw [aChance, if_pos ⟨c6, c11, q17, hman, c30, q37⟩, hnn, hnat])
              intro j
              induction j with
              | zero =>
                intro i num cnt s2 hij f2 hv
                refine MV.iload dX12_chance_51 rfl ?_
                refine MV.bipush (v := nI 10) dX12_chance_53 (by decide) ?_
                refine MV.icmp_ge 128 dX12_chance_55 (by decide) (fun _ => ?_) (fun z => absurd (nI_le (a := 10) (by omega) (by omega)) z)
                refine MV.iload dX12_chance_128 rfl ?_
                refine MV.iret dX12_chance_130 rfl ?_
                exact ⟨by rw [← hv]; rfl, f2⟩
              | succ j ih =>
                intro i num cnt s2 hij f2 hv
                obtain ⟨E, hE⟩ : ∃ E, hoursS T (kW 1) 63 true n (setNum c num) = E := ⟨_, rfl⟩
                have h93 : ∀ (s3 e3 : St), Rm T s3 1 e3 → frX s s3 → hoursS T (kW 1) 63 true 0 e3 = hoursS T (kW 1) 63 true n (setNum c num) → MV MX12_chance (d, 0, 0, n0, κ) a h0 s3 93 [some (.ref a), some (.int (x)), some (.int (nI n)), some (.int (nI p)), some (.int (y)), some (.int (num)), some (.int (cnt)), some (.int (nI i)), some (.int (nI n))] [] (fun v s' => v = some (.int (aChance T c x (nI n) (nI p) y)) ∧ frX s s') := by
                  intro s3 e3 hR3 f3 hv3
                  have hee : E = e3 := (hv3.trans hE).symm
                  subst hee
                  have hl3 := (hR3.2.1.left hR3.1 hp).1
                  refine MV.aload_n dX12_chance_93 rfl ?_
                  refine MV.getf 37 fl_X12_78 dX12_chance_94 (by decide) rfl ?_
                  refine MV.iconst (v := nI 1) dX12_chance_97 (by decide) ?_
                  refine MV.ald C12_in37 dX12_chance_98 (rfl) (by omega) (by decide) ?_
                  refine MV.eqi (E.1 10) hR3.2.1.2.2.1.symm ?_
                  refine MV.istore dX12_chance_99 (by decide) rfl ?_
                  refine MV.iload dX12_chance_101 rfl ?_
                  refine MV.aload_n dX12_chance_103 rfl ?_
                  refine MV.iconst (v := nI 1) dX12_chance_104 (by decide) ?_
                  refine MV.iload_n dX12_chance_105 rfl ?_
                  refine MV.cV2 yoX12_leftOf ml_X12_353 im_X12_leftOf se_X12_leftOf dX12_chance_106 rfl (Nat.le_of_ble_eq_true rfl) (by omega) rfl (Nat.le_of_ble_eq_true rfl) (mLeft_M (r := 1) (by omega) (by decide) hp6) (MV.rdK ?_)
                  refine MV.iload dX12_chance_109 rfl ?_
                  refine MV.icmp_lt 118 dX12_chance_111 (by decide) (fun c111 => ?_) (fun c111 => ?_)
                  · skip
                    have hlt : ¬ y ≤ cLeft E p := fun z => absurd (show mLeft s3 1 p < y from c111) (Int32.not_lt.mpr (by rw [hl3]; exact z))
                    refine MV.iconst (v := 0) dX12_chance_118 (by decide) ?_
                    refine MV.iadd dX12_chance_119 ?_
                    refine MV.istore dX12_chance_120 (by decide) rfl ?_
                    refine MV.iinc (v := 1) dX12_chance_122 rfl (by decide) (by decide) rfl ?_
                    refine MV.goto 51 dX12_chance_125 (by decide) ?_
                    first
                    | (refine MV.weak [some (.ref a), some (.int (x)), some (.int (nI n)), some (.int (nI p)), some (.int (y)), some (.int ((E.1 10))), some (.int ((cnt + 1))), some (.int (nI (i + 1))), none] (by simp [leL, sto1, sto2, k2c, nI_1]) ?_
                       exact ih (i + 1) _ _ s3 (by omega) f3 (by rw [← hv, chanceF, hE, if_pos hlt]))
                    | (refine MV.weak [some (.ref a), some (.int (x)), some (.int (nI n)), some (.int (nI p)), some (.int (y)), some (.int ((E.1 10))), some (.int ((cnt + 0))), some (.int (nI (i + 1))), none] (by simp [leL, sto1, sto2, k2c, nI_1]) ?_
                       exact ih (i + 1) _ _ s3 (by omega) f3 (by rw [← hv, chanceF, hE, if_neg hlt]))
                  · skip
                    have hlt : y ≤ cLeft E p := by rw [← hl3]; exact Int32.not_lt.mp c111
                    refine MV.iconst (v := 1) dX12_chance_114 (by decide) ?_
                    refine MV.goto 119 dX12_chance_115 (by decide) ?_
                    refine MV.iadd dX12_chance_119 ?_
                    refine MV.istore dX12_chance_120 (by decide) rfl ?_
                    refine MV.iinc (v := 1) dX12_chance_122 rfl (by decide) (by decide) rfl ?_
                    refine MV.goto 51 dX12_chance_125 (by decide) ?_
                    first
                    | (refine MV.weak [some (.ref a), some (.int (x)), some (.int (nI n)), some (.int (nI p)), some (.int (y)), some (.int ((E.1 10))), some (.int ((cnt + 1))), some (.int (nI (i + 1))), none] (by simp [leL, sto1, sto2, k2c, nI_1]) ?_
                       exact ih (i + 1) _ _ s3 (by omega) f3 (by rw [← hv, chanceF, hE, if_pos hlt]))
                    | (refine MV.weak [some (.ref a), some (.int (x)), some (.int (nI n)), some (.int (nI p)), some (.int (y)), some (.int ((E.1 10))), some (.int ((cnt + 0))), some (.int (nI (i + 1))), none] (by simp [leL, sto1, sto2, k2c, nI_1]) ?_
                       exact ih (i + 1) _ _ s3 (by omega) f3 (by rw [← hv, chanceF, hE, if_neg hlt]))
                have hin : ∀ (j2 q : Nat) (s3 e3 : St), q + j2 = n → Rm T s3 1 e3 → frX s s3 → hoursS T (kW 1) 63 true j2 e3 = hoursS T (kW 1) 63 true n (setNum c num) → MV MX12_chance (d, 0, 0, n0, κ) a h0 s3 75 [some (.ref a), some (.int (x)), some (.int (nI n)), some (.int (nI p)), some (.int (y)), some (.int (num)), some (.int (cnt)), some (.int (nI i)), some (.int (nI q))] [] (fun v s' => v = some (.int (aChance T c x (nI n) (nI p) y)) ∧ frX s s') := by
                  intro j2
                  induction j2 with
                  | zero =>
                    intro q s3 e3 hqj hR3 f3 hv3
                    have hqn : q = n := by omega
                    subst hqn
                    refine MV.iload dX12_chance_75 rfl ?_
                    refine MV.iload_n dX12_chance_77 rfl ?_
                    refine MV.icmp_ge 93 dX12_chance_78 (by decide) (fun _ => ?_) (fun z => absurd (nI_le (by omega) (by omega)) z)
                    exact h93 s3 e3 hR3 f3 hv3
                  | succ j2 ih2 =>
                    intro q s3 e3 hqj hR3 f3 hv3
                    refine MV.iload dX12_chance_75 rfl ?_
                    refine MV.iload_n dX12_chance_77 rfl ?_
                    refine MV.icmp_ge 93 dX12_chance_78 (by decide) (fun z => absurd z (nI_ge (by omega) (by omega))) (fun _ => ?_)
                    refine MV.aload_n dX12_chance_81 rfl ?_
                    refine MV.iconst (v := nI 1) dX12_chance_82 (by decide) ?_
                    refine MV.iconst (v := (bI true)) dX12_chance_83 (by decide) ?_
                    refine MV.cV2 yoX12_passes ml_X12_421 im_X12_passes se_X12_passes dX12_chance_84 rfl (Nat.le_of_ble_eq_true rfl) (by omega) rfl (Nat.le_of_ble_eq_true rfl) (passes_M (T := T) (k := kW 1) (c := e3) (byN := true) (by omega) (by decide) hw hR3 (relK1 (hqu.fr f3).1) rfl) ?_
                    rintro _ s4 ⟨rfl, hR4, f4⟩
                    refine MV.iinc (v := 1) dX12_chance_87 rfl (by decide) (by decide) rfl ?_
                    refine MV.goto 75 dX12_chance_90 (by decide) ?_
                    refine MV.weak [some (.ref a), some (.int (x)), some (.int (nI n)), some (.int (nI p)), some (.int (y)), some (.int (num)), some (.int (cnt)), some (.int (nI i)), some (.int (nI (q + 1)))] (by simp [leL, sto1, sto2, k2c, nI_1]) ?_
                    exact ih2 (q + 1) _ _ (by omega) hR4 (f3.tr (frX.r1 f4)) hv3
                refine MV.iload dX12_chance_51 rfl ?_
                refine MV.bipush (v := nI 10) dX12_chance_53 (by decide) ?_
                refine MV.icmp_ge 128 dX12_chance_55 (by decide) (fun z => absurd z (nI_ge (b := 10) (by omega) (by omega))) (fun _ => ?_)
                refine MV.aload_n dX12_chance_58 rfl ?_
                refine MV.iconst (v := nI 1) dX12_chance_59 (by decide) ?_
                refine MV.iconst (v := nI 0) dX12_chance_60 (by decide) ?_
                refine MV.cV2 yoX12_copies ml_X12_441 im_X12_copies se_X12_copies dX12_chance_61 rfl (Nat.le_of_ble_eq_true rfl) (by omega) rfl (Nat.le_of_ble_eq_true rfl) (copies_M (r := 1) (q := 0) (by omega) (by decide) (by decide) (by decide)) ?_
                rintro _ s1 ⟨rfl, f1, h1, h2⟩
                obtain ⟨hR1, hR0⟩ := (f2.R hR).copy1 f1 h1 h2
                have fx1 : frX s s1 := f2.tr (frX.r1 f1)
                refine MV.aload_n dX12_chance_64 rfl ?_
                refine MV.getf 37 fl_X12_78 dX12_chance_65 (by decide) rfl ?_
                refine MV.iconst (v := nI 1) dX12_chance_68 (by decide) ?_
                refine MV.iload dX12_chance_69 rfl ?_
                refine MV.ast C12_in37 dX12_chance_71 (rfl) (by omega) (by decide) ?_
                refine MV.iconst (v := nI 0) dX12_chance_72 (by decide) ?_
                refine MV.istore dX12_chance_73 (by decide) rfl ?_
                exact hin n 0 _ (setNum c num) (by omega) (hR1.T (frR.q (by decide)) hR1.2.1.drawn hR1.2.2.ints) (fx1.tr (frX.r1 (frR.q (by decide)))) rfl
            · skip
              have hA : aChance T c x (nI n) (nI p) y = -1 := by rw [aChance, if_neg (fun q => q.2.2.2.2.2 (Int32.not_le.mp c37))]
              refine MV.iconst (v := (-1)) dX12_chance_40 (by decide) ?_
              refine MV.iret dX12_chance_41 rfl ?_
              exact ⟨by rw [hA], frX.z⟩
