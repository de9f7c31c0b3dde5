/-! The model: what is done in a room -/
theorem MV.eqi {Y : Yd} {Z : Zd} {a : Nat} {h0 : Hp} {s : St} {pc : Nat} {L : List (Option Value)} {rest : List Value} {P : Option Value → St → Prop} {x : Int32} (y : Int32) (e : x = y) (k : MV Y Z a h0 s pc L (.int y :: rest) P) : MV Y Z a h0 s pc L (.int x :: rest) P := by
  rw [e]
  exact k
theorem MV.eql {Y : Yd} {Z : Zd} {a : Nat} {h0 : Hp} {s : St} {pc : Nat} {L : List (Option Value)} {rest : List Value} {P : Option Value → St → Prop} {x : Int64} (y : Int64) (e : x = y) (k : MV Y Z a h0 s pc L (.long y :: rest) P) : MV Y Z a h0 s pc L (.long x :: rest) P := by
  rw [e]
  exact k
/-- the model's room r is c, in order -/
def Rm (T : Tx) (s : St) (r : Nat) (c : St) : Prop := relT T s.2.1 ∧ relC T s r c ∧ wfC (nat (T.1.1 0)) c
theorem wfC.same {n : Nat} {c c' : St} (h : wfC n c) (e : ∀ p, p < n → c'.2.1 1 p = c.2.1 1 p ∧ c'.2.1 3 p = c.2.1 3 p ∧ c'.2.1 4 p = c.2.1 4 p ∧ okN (c'.2.1 5 p) 4) : wfC n c' := by
  intro p hp
  obtain ⟨I, t, l, a1, a2, a3, a4, a5, a6⟩ := h p hp
  obtain ⟨e1, e2, e3, e4⟩ := e p hp
  exact ⟨I, t, l, e1.trans a1, e2.trans a2, e3.trans a3, a4, a5, e4⟩
theorem uA_ne {f : Nat → Nat → Int32} {k i j : Nat} {v : Int32} (h : j ≠ k) : uA f k i v j = f j := by
  unfold uA
  rw [if_neg h]
theorem uA_at {f : Nat → Nat → Int32} {k i j : Nat} {v : Int32} : uA f k i v k j = if j = i then v else f k j := by
  unfold uA upd
  rw [if_pos rfl]
theorem lit_or : ∀ n, n < 4 → ∀ e, e < 2 → okN (nI n ||| ((1 : Int32) <<< (nI e &&& 31))) 4 ∧ okN (nI n &&& (((1 : Int32) <<< (nI e &&& 31)) ^^^ (-1))) 4 := by
  intro n hn e he
  have h1 : n = 0 ∨ n = 1 ∨ n = 2 ∨ n = 3 := by omega
  have h2 : e = 0 ∨ e = 1 := by omega
  unfold okN
  rcases h1 with rfl | rfl | rfl | rfl <;> rcases h2 with rfl | rfl <;> decide +kernel
theorem wfC.lit {n p : Nat} {c : St} {v : Int32} (h : wfC n c) (hv : okN v 4) : wfC n (c.1, uA c.2.1 5 p v, c.2.2) := by
  refine h.same fun q hq => ⟨rfl, rfl, rfl, ?_⟩
  show okN (uA c.2.1 5 p v 5 q) 4
  rw [uA_at]
  split
  · exact hv
  · exact (h q hq).choose_spec.choose_spec.choose_spec.2.2.2.2.2
theorem wfC.litok {n p : Nat} {c : St} (h : wfC n c) (hp : p < n) : okN (c.2.1 5 p) 4 := (h p hp).choose_spec.choose_spec.choose_spec.2.2.2.2.2
theorem wfC.light {n p e : Nat} {c : St} (h : wfC n c) (hp : p < n) (he : e < 2) : wfC n (cLight c p (nI e)) := by
  obtain ⟨h1, h2⟩ := h.litok hp
  unfold cLight
  refine h.lit ?_
  rw [h1]
  exact (lit_or _ h2 e he).1
theorem wfC.blow {n p e : Nat} {c : St} (h : wfC n c) (hp : p < n) (he : e < 2) : wfC n (cBlow c p (nI e)) := by
  obtain ⟨h1, h2⟩ := h.litok hp
  unfold cBlow
  refine h.lit ?_
  rw [h1]
  exact (lit_or _ h2 e he).2
theorem cMin_nI {a b : Nat} (ha : a < 2 ^ 31) (hb : b < 2 ^ 31) : cMin (nI a) (nI b) = nI (min a b) := by
  unfold cMin
  rcases Nat.lt_or_ge b a with q | q
  · rw [if_pos (nI_lt q ha), Nat.min_eq_right (by omega)]
  · rw [if_neg (nI_nlt q hb), Nat.min_eq_left q]
theorem wfC.short0 {n p b : Nat} {c : St} {e : Int32} (h : wfC n c) (hp : p < n) (hb : b < 2 ^ 31) : wfC n (cShort0 c p e (nI b)) := by
  obtain ⟨I, t, l, a1, a2, a3, a4, a5, a6⟩ := h p hp
  have hL : cLeft c p = nI (I - t - l) := by
    unfold cLeft
    rw [a1, a2, a3, nI_subI (by omega), nI_subI (by omega)]
  unfold cShort0
  rw [hL, cMin_nI hb (by omega)]
  intro q hq
  obtain ⟨I', t', l', b1, b2, b3, b4, b5, b6⟩ := h q hq
  by_cases hqp : q = p
  · subst hqp
    split
    · refine ⟨I, t + min b (I - t - l), l, a1, ?_, a3, by omega, a5, a6⟩
      show uA c.2.1 3 q _ 3 q = _
      rw [uA_at, if_pos rfl, a2, nI_add]
    · refine ⟨I, t, l + min b (I - t - l), a1, a2, ?_, by omega, a5, a6⟩
      show uA c.2.1 4 q _ 4 q = _
      rw [uA_at, if_pos rfl, a3, nI_add]
  · split
    · refine ⟨I', t', l', b1, ?_, b3, b4, b5, b6⟩
      show uA c.2.1 3 p _ 3 q = _
      rw [uA_at, if_neg hqp, b2]
    · refine ⟨I', t', l', b1, b2, ?_, b4, b5, b6⟩
      show uA c.2.1 4 p _ 4 q = _
      rw [uA_at, if_neg hqp, b3]
theorem wfC.out0 {n p : Nat} {c : St} (h : wfC n c) : wfC n (cOut0 c p) := by
  unfold cOut0
  split
  · exact h.lit (okN.of (n := 0) rfl (by decide) (by decide))
  · exact h
theorem wfC.shorten {n p b : Nat} {c : St} {e : Int32} (h : wfC n c) (hp : p < n) (hb : b < 2 ^ 31) : wfC n (cShorten c p e (nI b)) := (h.short0 hp hb).out0
theorem wfC.ints {n : Nat} {c : St} {f : Nat → Int32} (h : wfC n c) : wfC n (f, c.2.1, c.2.2.1, c.2.2.2) := h.same fun p hp => ⟨rfl, rfl, rfl, h.litok hp⟩
theorem wfC.seen {n p : Nat} {c : St} {v : Int32} (h : wfC n c) : wfC n (c.1, uA c.2.1 6 p v, c.2.2) := h.same fun q hq => ⟨rfl, rfl, rfl, h.litok hq⟩
theorem withinI_nI {w : Int64} {k : Nat} (hk : k < 2 ^ 31) : ∃ b : Nat, b ≤ k ∧ withinI w (nI k) = nI b := by
  unfold withinI
  by_cases h : 0 ≤ w
  · rw [if_neg (fun z => z h)]
    by_cases h2 : w ≤ (nI k).toInt64
    · rw [if_pos h2]
      have a1 := Int64.le_iff_toInt_le.mp h
      have a2 := Int64.le_iff_toInt_le.mp h2
      rw [Int32.toInt_toInt64, nI_toInt hk] at a2
      have a0 : (0 : Int64).toInt = 0 := by decide
      refine ⟨w.toInt.toNat, by omega, ?_⟩
      have : w = lN w.toInt.toNat := by
        apply Int64.toInt_inj.mp
        rw [lN_toInt (by omega)]
        omega
      rw [this, lN_i]
      congr 1
      rw [lN_toInt (by omega)]
      omega
    · rw [if_neg h2]
      exact ⟨k, Nat.le_refl _, rfl⟩
  · rw [if_pos h]
    exact ⟨0, Nat.zero_le _, rfl⟩
theorem burnN_nI {T : Tx} {nl : Int32} {w : Bool} {p : Nat} {c : St} : ∃ b : Nat, b ≤ 9 ∧ burnN T nl w p c = nI b := by
  have h1 : ∃ b : Nat, b ≤ 9 ∧ (if w = true then (2 : Int32) else 1) = nI b := by
    cases w
    · exact ⟨1, by decide, rfl⟩
    · exact ⟨2, by decide, rfl⟩
  unfold burnN
  split
  · split
    · exact h1
    · exact withinI_nI (k := 9) (by decide)
  · exact h1
theorem within_max {R : Int64} {k : Nat} (hk : k < 2 ^ 31) : (if (if R < (nI k).toInt64 then R else (nI k).toInt64) < 0 then (0 : Int64) else (if R < (nI k).toInt64 then R else (nI k).toInt64)).toInt32 = withinI R (nI k) := by
  have a0 : (0 : Int64).toInt = 0 := by decide
  have ak : ((nI k).toInt64).toInt = k := by rw [Int32.toInt_toInt64, nI_toInt hk]
  unfold withinI
  by_cases h : R < (nI k).toInt64
  · rw [if_pos h]
    have h1 := Int64.lt_iff_toInt_lt.mp h
    by_cases h2 : R < 0
    · have h3 := Int64.lt_iff_toInt_lt.mp h2
      rw [if_pos h2, if_pos (fun z => by have := Int64.le_iff_toInt_le.mp z; omega)]
      rfl
    · have h3 : ¬ R.toInt < 0 := fun z => h2 (Int64.lt_iff_toInt_lt.mpr (by omega))
      rw [if_neg h2, if_neg (fun z => z (Int64.le_iff_toInt_le.mpr (by omega))), if_pos (Int64.le_iff_toInt_le.mpr (by omega))]
  · rw [if_neg h]
    have h1 : ¬ R.toInt < k := fun z => h (Int64.lt_iff_toInt_lt.mpr (by omega))
    rw [if_neg (fun z => by have := Int64.lt_iff_toInt_lt.mp z; omega), if_neg (fun z => z (Int64.le_iff_toInt_le.mpr (by omega)))]
    by_cases h2 : R ≤ (nI k).toInt64
    · rw [if_pos h2]
      congr 1
      apply Int64.toInt_inj.mp
      have := Int64.le_iff_toInt_le.mp h2
      omega
    · rw [if_neg h2]
      exact Int32.toInt32_toInt64 _
set_option maxRecDepth 100000 in
set_option maxHeartbeats 2000000 in
theorem calls_M {d n0 a : Nat} {κ : Kd} {h0 : Hp} (hd : 4 ≤ d) {T : Tx} {s c : St} {r p : Nat} {w : Bool} (hr : r < 23) (hT : relT T s.2.1) (hC : relC T s r c) (hc : wfC (nat (T.1.1 0)) c) (hp : p < nat (T.1.1 0)) : MV MX12_calls (d, 0, 0, n0, κ) a h0 s 0 [some (.ref a), some (.int (nI r)), some (.int (nI p)), some (.int (bI w))] [] (fun v s' => v = none ∧ namesR s' c p w ∧ s'.1 = s.1 ∧ s'.2.1 = s.2.1) := by
  obtain ⟨eL, hp6⟩ := hC.left hT hp
  have eJ := hC.junes hT hc hp
  obtain ⟨b1, b2, b3, -⟩ := hC.2.2.2.2.2.1 p hp6
  have eB : bitsF (s.2.1 42 (6 * r + p)) 30 = bcI (c.2.1 5 p) := by rw [← b3]; exact bits4 (hc.litok hp)
  have hj := hT.2.1.1
  refine MV.aload_n dX12_calls_0 rfl ?_
  refine MV.getf 33 fl_X12_68 dX12_calls_1 (by decide) rfl ?_
  refine MV.iconst (v := nI 0) dX12_calls_4 (by decide) ?_
  refine MV.aload_n dX12_calls_5 rfl ?_
  refine MV.iload_n dX12_calls_6 rfl ?_
  refine MV.iload_n dX12_calls_7 rfl ?_
  refine MV.cV2 yoX12_leftOf ml_X12_353 im_X12_leftOf se_X12_leftOf dX12_calls_8 rfl (Nat.le_of_ble_eq_true rfl) (by omega) rfl (Nat.le_of_ble_eq_true rfl) (mLeft_M (by omega) hr hp6) (MV.rdK ?_)
  refine MV.eqi (cLeft c p) eL ?_
  refine MV.i2l dX12_calls_11 ?_
  refine MV.jst C12_in33 dX12_calls_12 (rfl) (by omega) (by decide) ?_
  refine MV.aload_n dX12_calls_13 rfl ?_
  refine MV.getf 33 fl_X12_68 dX12_calls_14 (by decide) rfl ?_
  refine MV.iconst (v := nI 1) dX12_calls_17 (by decide) ?_
  refine MV.aload_n dX12_calls_18 rfl ?_
  refine MV.getf 42 fl_X12_93 dX12_calls_19 (by decide) rfl ?_
  refine MV.bipush (v := 6) dX12_calls_22 (by decide) ?_
  refine MV.iload_n dX12_calls_24 rfl ?_
  refine MV.imul dX12_calls_25 ?_
  refine MV.iload_n dX12_calls_26 rfl ?_
  refine MV.iadd dX12_calls_27 ?_
  refine MV.ald C12_in42 dX12_calls_28 (rix _ _) (by omega) (by decide) ?_
  refine MV.cS1 yoX12_bitsOf ml_X12_356 st_X12_bitsOf dX12_calls_29 (Nat.le_of_ble_eq_true rfl) (by omega) rfl (Nat.le_of_ble_eq_true rfl) (fun h H => bitsOf_V (by omega)) ?_
  refine MV.eqi (bcI (c.2.1 5 p)) eB ?_
  refine MV.i2l dX12_calls_32 ?_
  refine MV.jst C12_in33 dX12_calls_33 (rfl) (by omega) (by decide) ?_
  refine MV.aload_n dX12_calls_34 rfl ?_
  refine MV.getf 33 fl_X12_68 dX12_calls_35 (by decide) rfl ?_
  refine MV.iconst (v := nI 2) dX12_calls_38 (by decide) ?_
  refine MV.aload_n dX12_calls_39 rfl ?_
  refine MV.iload_n dX12_calls_40 rfl ?_
  refine MV.iload_n dX12_calls_41 rfl ?_
  refine MV.cV2 yoX12_junesOf ml_X12_359 im_X12_junesOf se_X12_junesOf dX12_calls_42 rfl (Nat.le_of_ble_eq_true rfl) (by omega) rfl (Nat.le_of_ble_eq_true rfl) (junesOf_M (by omega) hr hp6 hj.1 (by have := hj.2; omega)) (MV.rdK ?_)
  refine MV.eqi (cJunesLeft c p) eJ ?_
  refine MV.i2l dX12_calls_45 ?_
  refine MV.jst C12_in33 dX12_calls_46 (rfl) (by omega) (by decide) ?_
  refine MV.aload_n dX12_calls_47 rfl ?_
  refine MV.getf 33 fl_X12_68 dX12_calls_48 (by decide) rfl ?_
  refine MV.iconst (v := nI 3) dX12_calls_51 (by decide) ?_
  refine MV.iload_n dX12_calls_52 rfl ?_
  refine MV.if_eq 60 dX12_calls_53 (by decide) (fun c53 => ?_) (fun c53 => ?_)
  · skip
    have c53 := bI_f c53
    subst c53
    refine MV.lconst (v := 0) dX12_calls_60 (by decide) ?_
    refine MV.jst C12_in33 dX12_calls_61 (rfl) (by omega) (by decide) ?_
    refine MV.aload_n dX12_calls_62 rfl ?_
    refine MV.getf 33 fl_X12_68 dX12_calls_63 (by decide) rfl ?_
    refine MV.iconst (v := nI 4) dX12_calls_66 (by decide) ?_
    refine MV.aload_n dX12_calls_67 rfl ?_
    refine MV.getf 40 fl_X12_87 dX12_calls_68 (by decide) rfl ?_
    refine MV.bipush (v := 6) dX12_calls_71 (by decide) ?_
    refine MV.iload_n dX12_calls_73 rfl ?_
    refine MV.imul dX12_calls_74 ?_
    refine MV.iload_n dX12_calls_75 rfl ?_
    refine MV.iadd dX12_calls_76 ?_
    refine MV.ald C12_in40 dX12_calls_77 (rix _ _) (by omega) (by decide) ?_
    refine MV.eqi (c.2.1 3 p) b1.symm ?_
    refine MV.i2l dX12_calls_78 ?_
    refine MV.jst C12_in33 dX12_calls_79 (rfl) (by omega) (by decide) ?_
    refine MV.aload_n dX12_calls_80 rfl ?_
    refine MV.getf 33 fl_X12_68 dX12_calls_81 (by decide) rfl ?_
    refine MV.iconst (v := nI 5) dX12_calls_84 (by decide) ?_
    refine MV.aload_n dX12_calls_85 rfl ?_
    refine MV.getf 41 fl_X12_90 dX12_calls_86 (by decide) rfl ?_
    refine MV.bipush (v := 6) dX12_calls_89 (by decide) ?_
    refine MV.iload_n dX12_calls_91 rfl ?_
    refine MV.imul dX12_calls_92 ?_
    refine MV.iload_n dX12_calls_93 rfl ?_
    refine MV.iadd dX12_calls_94 ?_
    refine MV.ald C12_in41 dX12_calls_95 (rix _ _) (by omega) (by decide) ?_
    refine MV.eqi (c.2.1 4 p) b2.symm ?_
    refine MV.i2l dX12_calls_96 ?_
    refine MV.jst C12_in33 dX12_calls_97 (rfl) (by omega) (by decide) ?_
    refine MV.aload_n dX12_calls_98 rfl ?_
    refine MV.getf 33 fl_X12_68 dX12_calls_99 (by decide) rfl ?_
    refine MV.bipush (v := nI 6) dX12_calls_102 (by decide) ?_
    refine MV.aload_n dX12_calls_104 rfl ?_
    refine MV.getf 36 fl_X12_75 dX12_calls_105 (by decide) rfl ?_
    refine MV.iload_n dX12_calls_108 rfl ?_
    refine MV.ald C12_in36 dX12_calls_109 (rfl) (by omega) (by decide) ?_
    refine MV.eqi (c.1 7) hC.2.1.symm ?_
    refine MV.i2l dX12_calls_110 ?_
    refine MV.jst C12_in33 dX12_calls_111 (rfl) (by omega) (by decide) ?_
    refine MV.vret dX12_calls_112 rfl ?_
    refine ⟨rfl, fun j hj num => ?_, rfl, rfl⟩
    have h7 : j = 0 ∨ j = 1 ∨ j = 2 ∨ j = 3 ∨ j = 4 ∨ j = 5 ∨ j = 6 := by omega
    rcases h7 with rfl | rfl | rfl | rfl | rfl | rfl | rfl
    · exact (ownL_at (num := num)).1.symm
    · exact (ownL_at (num := num)).2.1.symm
    · exact (ownL_at (num := num)).2.2.1.symm
    · first | exact (ownL_at (c := c) (p := p) (w := false) (num := num)).2.2.2.1.symm | exact (ownL_at (c := c) (p := p) (w := true) (num := num)).2.2.2.1.symm
    · exact (ownL_at (num := num)).2.2.2.2.1.symm
    · exact (ownL_at (num := num)).2.2.2.2.2.1.symm
    · exact (ownL_at (num := num)).2.2.2.2.2.2.1.symm
  · skip
    have c53 := bI_t c53
    subst c53
    refine MV.lconst (v := 1) dX12_calls_56 (by decide) ?_
    refine MV.goto 61 dX12_calls_57 (by decide) ?_
    refine MV.jst C12_in33 dX12_calls_61 (rfl) (by omega) (by decide) ?_
    refine MV.aload_n dX12_calls_62 rfl ?_
    refine MV.getf 33 fl_X12_68 dX12_calls_63 (by decide) rfl ?_
    refine MV.iconst (v := nI 4) dX12_calls_66 (by decide) ?_
    refine MV.aload_n dX12_calls_67 rfl ?_
    refine MV.getf 40 fl_X12_87 dX12_calls_68 (by decide) rfl ?_
    refine MV.bipush (v := 6) dX12_calls_71 (by decide) ?_
    refine MV.iload_n dX12_calls_73 rfl ?_
    refine MV.imul dX12_calls_74 ?_
    refine MV.iload_n dX12_calls_75 rfl ?_
    refine MV.iadd dX12_calls_76 ?_
    refine MV.ald C12_in40 dX12_calls_77 (rix _ _) (by omega) (by decide) ?_
    refine MV.eqi (c.2.1 3 p) b1.symm ?_
    refine MV.i2l dX12_calls_78 ?_
    refine MV.jst C12_in33 dX12_calls_79 (rfl) (by omega) (by decide) ?_
    refine MV.aload_n dX12_calls_80 rfl ?_
    refine MV.getf 33 fl_X12_68 dX12_calls_81 (by decide) rfl ?_
    refine MV.iconst (v := nI 5) dX12_calls_84 (by decide) ?_
    refine MV.aload_n dX12_calls_85 rfl ?_
    refine MV.getf 41 fl_X12_90 dX12_calls_86 (by decide) rfl ?_
    refine MV.bipush (v := 6) dX12_calls_89 (by decide) ?_
    refine MV.iload_n dX12_calls_91 rfl ?_
    refine MV.imul dX12_calls_92 ?_
    refine MV.iload_n dX12_calls_93 rfl ?_
    refine MV.iadd dX12_calls_94 ?_
    refine MV.ald C12_in41 dX12_calls_95 (rix _ _) (by omega) (by decide) ?_
    refine MV.eqi (c.2.1 4 p) b2.symm ?_
    refine MV.i2l dX12_calls_96 ?_
    refine MV.jst C12_in33 dX12_calls_97 (rfl) (by omega) (by decide) ?_
    refine MV.aload_n dX12_calls_98 rfl ?_
    refine MV.getf 33 fl_X12_68 dX12_calls_99 (by decide) rfl ?_
    refine MV.bipush (v := nI 6) dX12_calls_102 (by decide) ?_
    refine MV.aload_n dX12_calls_104 rfl ?_
    refine MV.getf 36 fl_X12_75 dX12_calls_105 (by decide) rfl ?_
    refine MV.iload_n dX12_calls_108 rfl ?_
    refine MV.ald C12_in36 dX12_calls_109 (rfl) (by omega) (by decide) ?_
    refine MV.eqi (c.1 7) hC.2.1.symm ?_
    refine MV.i2l dX12_calls_110 ?_
    refine MV.jst C12_in33 dX12_calls_111 (rfl) (by omega) (by decide) ?_
    refine MV.vret dX12_calls_112 rfl ?_
    refine ⟨rfl, fun j hj num => ?_, rfl, rfl⟩
    have h7 : j = 0 ∨ j = 1 ∨ j = 2 ∨ j = 3 ∨ j = 4 ∨ j = 5 ∨ j = 6 := by omega
    rcases h7 with rfl | rfl | rfl | rfl | rfl | rfl | rfl
    · exact (ownL_at (num := num)).1.symm
    · exact (ownL_at (num := num)).2.1.symm
    · exact (ownL_at (num := num)).2.2.1.symm
    · first | exact (ownL_at (c := c) (p := p) (w := false) (num := num)).2.2.2.1.symm | exact (ownL_at (c := c) (p := p) (w := true) (num := num)).2.2.2.1.symm
    · exact (ownL_at (num := num)).2.2.2.2.1.symm
    · exact (ownL_at (num := num)).2.2.2.2.2.1.symm
    · exact (ownL_at (num := num)).2.2.2.2.2.2.1.symm
set_option maxRecDepth 100000 in
set_option maxHeartbeats 2000000 in
theorem within_M {d n0 a : Nat} {κ : Kd} {h0 : Hp} (hd : 4 ≤ d) {T : Tx} {s c : St} {p k q : Nat} {w : Bool} {plain : Int32} (hq : q < 3) (hk : k < 2 ^ 31) (hT : relT T s.2.1) (hN : namesR s c p w) : MV MX12_within (d, 0, 0, n0, κ) a h0 s 0 [some (.ref a), some (.int (nI q)), some (.int (nI k)), some (.int (plain))] [] (fun v s' => ∃ x, v = some (.int x) ∧ x = (if tW T q c p w = ERR then plain else withinI (tW T q c p w) (nI k)) ∧ scW s s') := by
  obtain ⟨w1, w2, w3, w4⟩ := hT.2.2.2.2.2.2
  obtain ⟨g1, g2, g3, g4, g5, g6, g7⟩ := w4 q hq
  have tw : tW T q c p w = wRun (ownL c p w) (T.2.2.2.2.1 2) (T.2.2.2.2.1 3) (nat (s.2.1 17 q) - nat (s.2.1 16 q)) (nat (s.2.1 16 q)) [] := by
    unfold tW
    rw [g1, g2]
  refine MV.aload_n dX12_within_0 rfl ?_
  refine MV.iload_n dX12_within_1 rfl ?_
  refine MV.cV1 yoX12_hasLaw ml_X12_362 im_X12_hasLaw se_X12_hasLaw dX12_within_2 rfl (Nat.le_of_ble_eq_true rfl) (by omega) rfl (Nat.le_of_ble_eq_true rfl) (hasLaw_M (by omega) (by omega)) (MV.rdK ?_)
  refine MV.if_eq 16 dX12_within_5 (by decide) (fun c5 => ?_) (fun c5 => ?_)
  · skip
    refine MV.iload_n dX12_within_16 rfl ?_
    refine MV.iret dX12_within_17 rfl ?_
    have hne : ¬ tW T q c p w = ERR → False := fun z => z (by
      rw [tw, show nat (s.2.1 17 q) - nat (s.2.1 16 q) = 0 by
        have : s.2.1 17 q ≤ s.2.1 16 q := by
          have := bI_f c5
          unfold hasB at this
          simpa using this
        rw [g3.1, g4.1] at this
        have := (nI_leI (by have := g4.2; omega) (by have := g3.2; omega)).mp this
        omega]
      rfl)
    exact ⟨_, rfl, by rw [if_pos (Classical.byContradiction hne)], scW.rf⟩
  · skip
    have hlt : nat (s.2.1 16 q) < nat (s.2.1 17 q) := by
      have h := bI_t c5
      unfold hasB at h
      have h : ¬ s.2.1 17 q ≤ s.2.1 16 q := of_decide_eq_true h
      rw [g3.1, g4.1] at h
      exact Nat.not_le.mp fun z => h (nI_le z (by have := g3.2; omega))
    refine MV.aload_n dX12_within_8 rfl ?_
    refine MV.iload_n dX12_within_9 rfl ?_
    refine MV.cV1 yoX12_goes ml_X12_365 im_X12_goes se_X12_goes dX12_within_10 rfl (Nat.le_of_ble_eq_true rfl) (by omega) rfl (Nat.le_of_ble_eq_true rfl) (goes_M (own := ownL c p w) (ks := T.2.2.2.2.1 2) (ns := T.2.2.2.2.1 3) (by omega) (by omega) g3.1 g4.1 g5 (by have := g4.2; omega) (fun k h1 h2 => w3 k (by omega)) (g7 hlt) hN (fun _ => rfl) (fun _ _ _ _ => inR_own) tw.symm) ?_
    rintro _ s1 ⟨b, rfl, sc, hb1, hb2⟩
    refine MV.if_ne 18 dX12_within_13 (by decide) (fun c13 => ?_) (fun c13 => ?_)
    · skip
      have hb := bI_t c13
      refine MV.lconst (v := 0) dX12_within_18 (by decide) ?_
      refine MV.iload_n dX12_within_19 rfl ?_
      refine MV.i2l dX12_within_20 ?_
      refine MV.aload_n dX12_within_21 rfl ?_
      refine MV.getf 34 fl_X12_72 dX12_within_22 (by decide) rfl ?_
      refine MV.iconst (v := nI 0) dX12_within_25 (by decide) ?_
      refine MV.jld C12_in34 dX12_within_26 (rfl) (by omega) (by decide) ?_
      refine MV.eql (tW T q c p w) (hb2 hb) ?_
      refine MV.mminl ml_X12_368 st_J9_min_f86c9 ini_J9 co_J9_min_f86c9 dX12_within_27 (by omega) (Nat.le_of_ble_eq_true rfl) ?_
      refine MV.mmaxl ml_X12_372 st_J9_max_f86c9 ini_J9 co_J9_max_f86c9 dX12_within_30 (by omega) (Nat.le_of_ble_eq_true rfl) ?_
      refine MV.l2i dX12_within_33 ?_
      refine MV.iret dX12_within_34 rfl ?_
      have hne : ¬ tW T q c p w = ERR := by rw [hb] at hb1; exact of_decide_eq_true hb1.symm
      exact ⟨_, rfl, by rw [if_neg hne]; exact within_max hk, sc⟩
    · skip
      have hb := bI_f c13
      refine MV.iload_n dX12_within_16 rfl ?_
      refine MV.iret dX12_within_17 rfl ?_
      exact ⟨_, rfl, by rw [if_pos (Classical.byContradiction fun z => by rw [hb, decide_eq_true z] at hb1; cases hb1)], sc⟩
