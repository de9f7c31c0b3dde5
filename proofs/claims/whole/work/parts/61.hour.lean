/-! The model: cuts, lights, blows, burns, isWindy -/
theorem Rm.T {T : Tx} {s s' c c' : St} {r : Nat} (h : Rm T s r c) (f : frR r s s') (hC : relC T s' r c') (hw : wfC (nat (T.1.1 0)) c') : Rm T s' r c' := ⟨f.T h.1, hC, hw⟩
theorem Rm.p6 {T : Tx} {s c : St} {r p : Nat} (h : Rm T s r c) (hp : p < nat (T.1.1 0)) : p < 6 := (h.2.1.left h.1 hp).2
theorem frR.p {r p k : Nat} {s : St} {v : Int32} (hp : p < 6) (hk : 40 ≤ k ∧ k ≤ 43) : frR r s (mA s k (6 * r + p) v) := frR.a (Or.inr (by omega))
theorem frR.q {r k : Nat} {s : St} {v : Int32} (hk : 36 ≤ k ∧ k ≤ 39) : frR r s (mA s k r v) := frR.a (Or.inl (by omega))
theorem Rm.lit {T : Tx} {s c : St} {r p : Nat} {v : Int32} (h : Rm T s r c) (hp : p < 6) (hv : okN v 4) : Rm T (mA s 42 (6 * r + p) v) r (c.1, uA c.2.1 5 p v, c.2.2) := h.T (frR.p hp (by decide)) (h.2.1.lit hp) (h.2.2.lit hv)
theorem Rm.sc {T : Tx} {s s' c : St} {r : Nat} (h : Rm T s r c) (f : scW s s') : Rm T s' r c := h.T (frR.sc f) (h.2.1.sc f) h.2.2
theorem canB {c : St} {p L : Nat} {e : Int32} (hL : cLeft c p = nI L) (hL2 : L ≤ 60) : cCan c p e = (decide ((c.2.1 5 p >>> (e &&& 31)) &&& 1 = 0) && decide (¬ cLeft c p = 0)) := by
  unfold cCan cLitB litB
  rw [hL]
  by_cases h : L = 0
  · subst h
    rw [show decide (¬ nI 0 ≤ 0) = false by decide, show decide (¬ nI 0 = 0) = false by decide, Bool.and_false, Bool.and_false]
  · rw [decide_eq_true (nI_nle (by omega) (by omega)), decide_eq_true (nI_ne0 (by omega) (by omega)), Bool.and_true, Bool.and_true]
    by_cases q : (c.2.1 5 p >>> (e &&& 31)) &&& 1 = 0 <;> simp [q]
set_option maxRecDepth 100000 in
set_option maxHeartbeats 1000000 in
theorem cuts_M {d n0 a : Nat} {κ : Kd} {h0 : Hp} (hd : 3 ≤ d) {T : Tx} {s c : St} {r p : Nat} (hr : r < 23) (hR : Rm T s r c) (hp : p < nat (T.1.1 0)) {e : Int32} {b : Nat} (hb : b < 2 ^ 31) {R : St} (hRR : cShorten c p e (nI b) = R) : MV MX12_cuts (d, 0, 0, n0, κ) a h0 s 0 [some (.ref a), some (.int (nI r)), some (.int (nI p)), some (.int (e)), some (.int (nI b)), none] [] (fun v s' => v = none ∧ Rm T s' r R ∧ frR r s s') := by
  have hp6 := hR.p6 hp
  have eL := (hR.2.1.left hR.1 hp).1
  obtain ⟨b1, b2, b3, b4⟩ := hR.2.1.2.2.2.2.2.1 p hp6
  obtain ⟨L, hL, hL2⟩ := hR.2.2.left hp
  have hJ : ∀ s1 c1 : St, Rm T s1 r c1 → frR r s s1 → cOut0 c1 p = R → MV MX12_cuts (d, 0, 0, n0, κ) a h0 s1 52 [some (.ref a), some (.int (nI r)), some (.int (nI p)), some (.int (e)), some (.int (nI b)), none] [] (fun v s' => v = none ∧ Rm T s' r R ∧ frR r s s') := by
    intro s1 c1 hR1 f1 hq
    refine MV.aload_n dX12_cuts_52 rfl ?_
    refine MV.iload_n dX12_cuts_53 rfl ?_
    refine MV.iload_n dX12_cuts_54 rfl ?_
    refine MV.cV2 yoX12_leftOf ml_X12_353 im_X12_leftOf se_X12_leftOf dX12_cuts_55 rfl (Nat.le_of_ble_eq_true rfl) (by omega) rfl (Nat.le_of_ble_eq_true rfl) (mLeft_M (by omega) hr hp6) (MV.rdK ?_)
    refine MV.if_ne 73 dX12_cuts_58 (by decide) (fun c58 => ?_) (fun c58 => ?_)
    · skip
      have c58 : ¬ cLeft c1 p = 0 := fun z => c58 ((hR1.2.1.left hR1.1 hp).1.trans z)
      refine MV.vret dX12_cuts_73 rfl ?_
      first
      | exact ⟨rfl, by rw [← hq, cOut0, if_neg c58]; exact hR1, f1⟩
      | exact ⟨rfl, by rw [← hq, cOut0, if_pos c58]; exact hR1.lit hp6 (okN.of (n := 0) rfl (by decide) (by decide)), f1.tr (frR.p hp6 (by decide))⟩
    · skip
      have c58 : cLeft c1 p = 0 := (hR1.2.1.left hR1.1 hp).1.symm.trans c58
      refine MV.aload_n dX12_cuts_61 rfl ?_
      refine MV.getf 42 fl_X12_93 dX12_cuts_62 (by decide) rfl ?_
      refine MV.bipush (v := 6) dX12_cuts_65 (by decide) ?_
      refine MV.iload_n dX12_cuts_67 rfl ?_
      refine MV.imul dX12_cuts_68 ?_
      refine MV.iload_n dX12_cuts_69 rfl ?_
      refine MV.iadd dX12_cuts_70 ?_
      refine MV.iconst (v := 0) dX12_cuts_71 (by decide) ?_
      refine MV.ast C12_in42 dX12_cuts_72 (rix _ _) (by omega) (by decide) ?_
      refine MV.vret dX12_cuts_73 rfl ?_
      first
      | exact ⟨rfl, by rw [← hq, cOut0, if_neg c58]; exact hR1, f1⟩
      | exact ⟨rfl, by rw [← hq, cOut0, if_pos c58]; exact hR1.lit hp6 (okN.of (n := 0) rfl (by decide) (by decide)), f1.tr (frR.p hp6 (by decide))⟩
  refine MV.iload dX12_cuts_0 rfl ?_
  refine MV.aload_n dX12_cuts_2 rfl ?_
  refine MV.iload_n dX12_cuts_3 rfl ?_
  refine MV.iload_n dX12_cuts_4 rfl ?_
  refine MV.cV2 yoX12_leftOf ml_X12_353 im_X12_leftOf se_X12_leftOf dX12_cuts_5 rfl (Nat.le_of_ble_eq_true rfl) (by omega) rfl (Nat.le_of_ble_eq_true rfl) (mLeft_M (by omega) hr hp6) (MV.rdK ?_)
  refine MV.mmin ml_X12_390 st_J9_min_7cf53 ini_J9 co_J9_min_7cf53 dX12_cuts_8 (by omega) (Nat.le_of_ble_eq_true rfl) ?_
  refine MV.eqi (cMin (nI b) (cLeft c p)) (by rw [eL]; rfl) ?_
  refine MV.istore dX12_cuts_11 (by decide) rfl ?_
  refine MV.iload_n dX12_cuts_13 rfl ?_
  refine MV.if_ne 36 dX12_cuts_14 (by decide) (fun c14 => ?_) (fun c14 => ?_)
  · skip
    have hE : cShort0 c p e (nI b) = (c.1, uA c.2.1 4 p (c.2.1 4 p + cMin (nI b) (cLeft c p)), c.2.2) := by rw [cShort0, if_neg c14]
    refine MV.aload_n dX12_cuts_36 rfl ?_
    refine MV.getf 41 fl_X12_90 dX12_cuts_37 (by decide) rfl ?_
    refine MV.bipush (v := 6) dX12_cuts_40 (by decide) ?_
    refine MV.iload_n dX12_cuts_42 rfl ?_
    refine MV.imul dX12_cuts_43 ?_
    refine MV.iload_n dX12_cuts_44 rfl ?_
    refine MV.iadd dX12_cuts_45 ?_
    refine MV.dup2 dX12_cuts_46 rfl rfl ?_
    refine MV.ald C12_in41 dX12_cuts_47 (rix _ _) (by omega) (by decide) ?_
    refine MV.iload dX12_cuts_48 rfl ?_
    refine MV.iadd dX12_cuts_50 ?_
    refine MV.ast C12_in41 dX12_cuts_51 (rix _ _) (by omega) (by decide) ?_
    refine MV.weak [some (.ref a), some (.int (nI r)), some (.int (nI p)), some (.int (e)), some (.int (nI b)), none] (by simp [leL, sto1, sto2, k2c]) ?_
    first
    | exact hJ _ _ (hR.T (frR.p hp6 (by decide)) (by rw [hE, b1]; exact hR.2.1.top hp6) (hR.2.2.short0 hp hb)) (frR.p hp6 (by decide)) hRR
    | exact hJ _ _ (hR.T (frR.p hp6 (by decide)) (by rw [hE, b2]; exact hR.2.1.low hp6) (hR.2.2.short0 hp hb)) (frR.p hp6 (by decide)) hRR
  · skip
    have hE : cShort0 c p e (nI b) = (c.1, uA c.2.1 3 p (c.2.1 3 p + cMin (nI b) (cLeft c p)), c.2.2) := by rw [cShort0, if_pos c14]
    refine MV.aload_n dX12_cuts_17 rfl ?_
    refine MV.getf 40 fl_X12_87 dX12_cuts_18 (by decide) rfl ?_
    refine MV.bipush (v := 6) dX12_cuts_21 (by decide) ?_
    refine MV.iload_n dX12_cuts_23 rfl ?_
    refine MV.imul dX12_cuts_24 ?_
    refine MV.iload_n dX12_cuts_25 rfl ?_
    refine MV.iadd dX12_cuts_26 ?_
    refine MV.dup2 dX12_cuts_27 rfl rfl ?_
    refine MV.ald C12_in40 dX12_cuts_28 (rix _ _) (by omega) (by decide) ?_
    refine MV.iload dX12_cuts_29 rfl ?_
    refine MV.iadd dX12_cuts_31 ?_
    refine MV.ast C12_in40 dX12_cuts_32 (rix _ _) (by omega) (by decide) ?_
    refine MV.goto 52 dX12_cuts_33 (by decide) ?_
    refine MV.weak [some (.ref a), some (.int (nI r)), some (.int (nI p)), some (.int (e)), some (.int (nI b)), none] (by simp [leL, sto1, sto2, k2c]) ?_
    first
    | exact hJ _ _ (hR.T (frR.p hp6 (by decide)) (by rw [hE, b1]; exact hR.2.1.top hp6) (hR.2.2.short0 hp hb)) (frR.p hp6 (by decide)) hRR
    | exact hJ _ _ (hR.T (frR.p hp6 (by decide)) (by rw [hE, b2]; exact hR.2.1.low hp6) (hR.2.2.short0 hp hb)) (frR.p hp6 (by decide)) hRR
set_option maxRecDepth 100000 in
set_option maxHeartbeats 1000000 in
theorem lights_M {d n0 a : Nat} {κ : Kd} {h0 : Hp} (hd : 3 ≤ d) {T : Tx} {s c : St} {r p : Nat} (hr : r < 23) (hR : Rm T s r c) (hp : p < nat (T.1.1 0)) {e : Nat} (he : e < 2) : MV MX12_lights (d, 0, 0, n0, κ) a h0 s 0 [some (.ref a), some (.int (nI r)), some (.int (nI p)), some (.int (nI e))] [] (fun v s' => ∃ b : Bool, v = some (.int (bI b)) ∧ b = cCan c p (nI e) ∧ Rm T s' r (if b = true then cLight c p (nI e) else c) ∧ frR r s s') := by
  have hp6 := hR.p6 hp
  have eL := (hR.2.1.left hR.1 hp).1
  obtain ⟨b1, b2, b3, b4⟩ := hR.2.1.2.2.2.2.2.1 p hp6
  obtain ⟨L, hL, hL2⟩ := hR.2.2.left hp
  refine MV.aload_n dX12_lights_0 rfl ?_
  refine MV.getf 42 fl_X12_93 dX12_lights_1 (by decide) rfl ?_
  refine MV.bipush (v := 6) dX12_lights_4 (by decide) ?_
  refine MV.iload_n dX12_lights_6 rfl ?_
  refine MV.imul dX12_lights_7 ?_
  refine MV.iload_n dX12_lights_8 rfl ?_
  refine MV.iadd dX12_lights_9 ?_
  refine MV.ald C12_in42 dX12_lights_10 (rix _ _) (by omega) (by decide) ?_
  refine MV.eqi (c.2.1 5 p) b3.symm ?_
  refine MV.iload_n dX12_lights_11 rfl ?_
  refine MV.ishr dX12_lights_12 ?_
  refine MV.iconst (v := 1) dX12_lights_13 (by decide) ?_
  refine MV.iand dX12_lights_14 ?_
  refine MV.iconst (v := 1) dX12_lights_15 (by decide) ?_
  refine MV.icmp_eq 28 dX12_lights_16 (by decide) (fun c16 => ?_) (fun c16 => ?_)
  · skip
    have q16 : ¬ (c.2.1 5 p >>> (nI e &&& 31)) &&& 1 = 0 := (and1_iff _).mp c16
    refine MV.iconst (v := 0) dX12_lights_28 (by decide) ?_
    refine MV.zret .boolean dX12_lights_29 rfl (rfl) ?_
    exact ⟨false, rfl, by rw [canB hL hL2]; first | (rw [decide_eq_false q16, Bool.false_and]; done) | (rw [decide_eq_true q16, decide_eq_false (fun z => z q25)]; rfl), by rw [if_neg (by decide)]; exact hR, frR.rf⟩
  · skip
    have q16 : (c.2.1 5 p >>> (nI e &&& 31)) &&& 1 = 0 := Classical.byContradiction fun z => c16 ((and1_iff _).mpr z)
    refine MV.aload_n dX12_lights_19 rfl ?_
    refine MV.iload_n dX12_lights_20 rfl ?_
    refine MV.iload_n dX12_lights_21 rfl ?_
    refine MV.cV2 yoX12_leftOf ml_X12_353 im_X12_leftOf se_X12_leftOf dX12_lights_22 rfl (Nat.le_of_ble_eq_true rfl) (by omega) rfl (Nat.le_of_ble_eq_true rfl) (mLeft_M (by omega) hr hp6) (MV.rdK ?_)
    refine MV.if_ne 30 dX12_lights_25 (by decide) (fun c25 => ?_) (fun c25 => ?_)
    · skip
      have q25 : ¬ cLeft c p = 0 := fun z => c25 (eL.trans z)
      refine MV.aload_n dX12_lights_30 rfl ?_
      refine MV.getf 42 fl_X12_93 dX12_lights_31 (by decide) rfl ?_
      refine MV.bipush (v := 6) dX12_lights_34 (by decide) ?_
      refine MV.iload_n dX12_lights_36 rfl ?_
      refine MV.imul dX12_lights_37 ?_
      refine MV.iload_n dX12_lights_38 rfl ?_
      refine MV.iadd dX12_lights_39 ?_
      refine MV.dup2 dX12_lights_40 rfl rfl ?_
      refine MV.ald C12_in42 dX12_lights_41 (rix _ _) (by omega) (by decide) ?_
      refine MV.eqi (c.2.1 5 p) b3.symm ?_
      refine MV.iconst (v := 1) dX12_lights_42 (by decide) ?_
      refine MV.iload_n dX12_lights_43 rfl ?_
      refine MV.ishl dX12_lights_44 ?_
      refine MV.ior dX12_lights_45 ?_
      refine MV.ast C12_in42 dX12_lights_46 (rix _ _) (by omega) (by decide) ?_
      refine MV.iconst (v := 1) dX12_lights_47 (by decide) ?_
      refine MV.zret .boolean dX12_lights_48 rfl (rfl) ?_
      exact ⟨true, rfl, by rw [canB hL hL2, decide_eq_true q16, decide_eq_true q25]; rfl, by rw [if_pos rfl]; exact hR.lit hp6 (by obtain ⟨l1, l2⟩ := hR.2.2.litok hp; rw [l1]; exact (lit_or _ l2 e he).1), frR.p hp6 (by decide)⟩
    · skip
      have q25 : cLeft c p = 0 := eL.symm.trans c25
      refine MV.iconst (v := 0) dX12_lights_28 (by decide) ?_
      refine MV.zret .boolean dX12_lights_29 rfl (rfl) ?_
      exact ⟨false, rfl, by rw [canB hL hL2]; first | (rw [decide_eq_false q16, Bool.false_and]; done) | (rw [decide_eq_true q16, decide_eq_false (fun z => z q25)]; rfl), by rw [if_neg (by decide)]; exact hR, frR.rf⟩
set_option maxRecDepth 100000 in
set_option maxHeartbeats 1000000 in
theorem blows_M {d n0 a : Nat} {κ : Kd} {h0 : Hp} (hd : 3 ≤ d) {T : Tx} {s c : St} {r p : Nat} (hr : r < 23) (hR : Rm T s r c) (hp : p < nat (T.1.1 0)) {e : Nat} (he : e < 2) : MV MX12_blows (d, 0, 0, n0, κ) a h0 s 0 [some (.ref a), some (.int (nI r)), some (.int (nI p)), some (.int (nI e))] [] (fun v s' => ∃ b : Bool, v = some (.int (bI b)) ∧ b = cLitB c p (nI e) ∧ Rm T s' r (if b = true then cBlow c p (nI e) else c) ∧ frR r s s') := by
  have hp6 := hR.p6 hp
  have eL := (hR.2.1.left hR.1 hp).1
  obtain ⟨b1, b2, b3, b4⟩ := hR.2.1.2.2.2.2.2.1 p hp6
  obtain ⟨L, hL, hL2⟩ := hR.2.2.left hp
  refine MV.aload_n dX12_blows_0 rfl ?_
  refine MV.getf 42 fl_X12_93 dX12_blows_1 (by decide) rfl ?_
  refine MV.bipush (v := 6) dX12_blows_4 (by decide) ?_
  refine MV.iload_n dX12_blows_6 rfl ?_
  refine MV.imul dX12_blows_7 ?_
  refine MV.iload_n dX12_blows_8 rfl ?_
  refine MV.iadd dX12_blows_9 ?_
  refine MV.ald C12_in42 dX12_blows_10 (rix _ _) (by omega) (by decide) ?_
  refine MV.eqi (c.2.1 5 p) b3.symm ?_
  refine MV.iload_n dX12_blows_11 rfl ?_
  refine MV.ishr dX12_blows_12 ?_
  refine MV.iconst (v := 1) dX12_blows_13 (by decide) ?_
  refine MV.iand dX12_blows_14 ?_
  refine MV.if_ne 20 dX12_blows_15 (by decide) (fun c15 => ?_) (fun c15 => ?_)
  · skip
    refine MV.aload_n dX12_blows_20 rfl ?_
    refine MV.getf 42 fl_X12_93 dX12_blows_21 (by decide) rfl ?_
    refine MV.bipush (v := 6) dX12_blows_24 (by decide) ?_
    refine MV.iload_n dX12_blows_26 rfl ?_
    refine MV.imul dX12_blows_27 ?_
    refine MV.iload_n dX12_blows_28 rfl ?_
    refine MV.iadd dX12_blows_29 ?_
    refine MV.dup2 dX12_blows_30 rfl rfl ?_
    refine MV.ald C12_in42 dX12_blows_31 (rix _ _) (by omega) (by decide) ?_
    refine MV.eqi (c.2.1 5 p) b3.symm ?_
    refine MV.iconst (v := 1) dX12_blows_32 (by decide) ?_
    refine MV.iload_n dX12_blows_33 rfl ?_
    refine MV.ishl dX12_blows_34 ?_
    refine MV.iconst (v := (-1)) dX12_blows_35 (by decide) ?_
    refine MV.ixor dX12_blows_36 ?_
    refine MV.iand dX12_blows_37 ?_
    refine MV.ast C12_in42 dX12_blows_38 (rix _ _) (by omega) (by decide) ?_
    refine MV.iconst (v := 1) dX12_blows_39 (by decide) ?_
    refine MV.zret .boolean dX12_blows_40 rfl (rfl) ?_
    exact ⟨true, rfl, by unfold cLitB litB; rw [decide_eq_true c15], by rw [if_pos rfl]; exact hR.lit hp6 (by obtain ⟨l1, l2⟩ := hR.2.2.litok hp; rw [l1]; exact (lit_or _ l2 e he).2), frR.p hp6 (by decide)⟩
  · skip
    refine MV.iconst (v := 0) dX12_blows_18 (by decide) ?_
    refine MV.zret .boolean dX12_blows_19 rfl (rfl) ?_
    exact ⟨false, rfl, by unfold cLitB litB; rw [decide_eq_false (fun z => z c15)], by rw [if_neg (by decide)]; exact hR, frR.rf⟩
def mW (tw : Int32) (byN : Bool) (T : Tx) (c : St) : Bool × St := if byN = true then windN (T.1.1 10) c else (wAsB tw (T.1.1 10), c)
set_option maxRecDepth 100000 in
set_option maxHeartbeats 2000000 in
theorem isWindy_M {d n0 a : Nat} {κ : Kd} {h0 : Hp} (hd : 2 ≤ d) {T : Tx} {s c : St} {r : Nat} {byN : Bool} (hr : r < 23) (hR : Rm T s r c) (hby : byN = true → s.1 46 = 0) : MV MX12_isWindy (d, 0, 0, n0, κ) a h0 s 0 [some (.ref a), some (.int (nI r)), some (.int (bI byN)), none] [] (fun v s' => v = some (.int (bI (mW (s.1 46) byN T c).1)) ∧ Rm T s' r (mW (s.1 46) byN T c).2 ∧ frR r s s') := by
  have hd5 := hR.1.2.2.2.2.2.1.1
  refine MV.aload_n dX12_isWindy_0 rfl ?_
  refine MV.getf 3 fl_X12_13 dX12_isWindy_1 (by decide) rfl ?_
  refine MV.iconst (v := nI 5) dX12_isWindy_4 (by decide) ?_
  refine MV.ald C12_in3 dX12_isWindy_5 (rfl) (by omega) (by decide) ?_
  refine MV.eqi (T.1.1 10) hd5.symm ?_
  refine MV.istore_n dX12_isWindy_6 (by decide) rfl ?_
  refine MV.iload_n dX12_isWindy_7 rfl ?_
  refine MV.if_eq 21 dX12_isWindy_8 (by decide) (fun c8 => ?_) (fun c8 => ?_)
  · skip
    have c8 := bI_f c8
    refine MV.aload_n dX12_isWindy_21 rfl ?_
    refine MV.cV0 yoX12_windyAsItGoes ml_X12_378 im_X12_windyAsItGoes se_X12_windyAsItGoes dX12_isWindy_22 rfl (Nat.le_of_ble_eq_true rfl) (by omega) rfl (Nat.le_of_ble_eq_true rfl) (wAs_M (by omega)) (MV.rdK ?_)
    refine MV.zret .boolean dX12_isWindy_25 rfl (bI_n _) ?_
    have hv : mW (s.1 46) byN T c = (wAsB (s.1 46) (s.2.1 3 5), c) := by
      rw [← hd5]
      unfold mW
      first
      | rw [if_neg (by rw [c8]; decide)]
      | (rw [if_pos c8, hby c8]; unfold windN; rw [if_pos (Or.inl c12), c12]; rfl)
      | (rw [if_pos c8, hby c8]; unfold windN; rw [if_pos (Or.inr c18), c18]; rfl)
    exact ⟨by rw [hv], by rw [hv]; exact hR, frR.rf⟩
  · skip
    have c8 := bI_t c8
    refine MV.iload_n dX12_isWindy_11 rfl ?_
    refine MV.if_eq 21 dX12_isWindy_12 (by decide) (fun c12 => ?_) (fun c12 => ?_)
    · skip
      refine MV.aload_n dX12_isWindy_21 rfl ?_
      refine MV.cV0 yoX12_windyAsItGoes ml_X12_378 im_X12_windyAsItGoes se_X12_windyAsItGoes dX12_isWindy_22 rfl (Nat.le_of_ble_eq_true rfl) (by omega) rfl (Nat.le_of_ble_eq_true rfl) (wAs_M (by omega)) (MV.rdK ?_)
      refine MV.zret .boolean dX12_isWindy_25 rfl (bI_n _) ?_
      have hv : mW (s.1 46) byN T c = (wAsB (s.1 46) (s.2.1 3 5), c) := by
        rw [← hd5]
        unfold mW
        first
        | rw [if_neg (by rw [c8]; decide)]
        | (rw [if_pos c8, hby c8]; unfold windN; rw [if_pos (Or.inl c12), c12]; rfl)
        | (rw [if_pos c8, hby c8]; unfold windN; rw [if_pos (Or.inr c18), c18]; rfl)
      exact ⟨by rw [hv], by rw [hv]; exact hR, frR.rf⟩
    · skip
      refine MV.iload_n dX12_isWindy_15 rfl ?_
      refine MV.bipush (v := 100) dX12_isWindy_16 (by decide) ?_
      refine MV.icmp_ne 26 dX12_isWindy_18 (by decide) (fun c18 => ?_) (fun c18 => ?_)
      · skip
        have hn : ¬ (T.1.1 10 = 0 ∨ T.1.1 10 = 100) := fun z => z.elim c12 c18
        refine MV.aload_n dX12_isWindy_26 rfl ?_
        refine MV.getf 37 fl_X12_78 dX12_isWindy_27 (by decide) rfl ?_
        refine MV.iload_n dX12_isWindy_30 rfl ?_
        refine MV.aload_n dX12_isWindy_31 rfl ?_
        refine MV.getf 37 fl_X12_78 dX12_isWindy_32 (by decide) rfl ?_
        refine MV.iload_n dX12_isWindy_35 rfl ?_
        refine MV.ald C12_in37 dX12_isWindy_36 (rfl) (by omega) (by decide) ?_
        refine MV.eqi (c.1 10) hR.2.1.2.2.1.symm ?_
        refine MV.ldcw kc_X12_396 dX12_isWindy_37 ?_
        refine MV.imul dX12_isWindy_40 ?_
        refine MV.sipush (v := 12345) dX12_isWindy_41 (by decide) ?_
        refine MV.iadd dX12_isWindy_44 ?_
        refine MV.ldcw kc_X12_399 dX12_isWindy_45 ?_
        refine MV.iand dX12_isWindy_48 ?_
        refine MV.eqi (nextN (c.1 10)) (nextN_m _).symm ?_
        refine MV.ast C12_in37 dX12_isWindy_49 (rfl) (by omega) (by decide) ?_
        refine MV.aload_n dX12_isWindy_50 rfl ?_
        refine MV.getf 37 fl_X12_78 dX12_isWindy_51 (by decide) rfl ?_
        refine MV.iload_n dX12_isWindy_54 rfl ?_
        refine MV.ald C12_in37 dX12_isWindy_55 (rfl) (by omega) (by decide) ?_
        refine MV.eqi (nextN (c.1 10)) (by rw [mA_at, if_pos rfl]) ?_
        refine MV.bipush (v := 16) dX12_isWindy_56 (by decide) ?_
        refine MV.ishr dX12_isWindy_58 ?_
        refine MV.bipush (v := 100) dX12_isWindy_59 (by decide) ?_
        refine MV.irem dX12_isWindy_61 (by decide) ?_
        refine MV.iload_n dX12_isWindy_62 rfl ?_
        refine MV.icmp_ge 70 dX12_isWindy_63 (by decide) (fun c63 => ?_) (fun c63 => ?_)
        · skip
          have hv : (mW (s.1 46) byN T c) = (false, upd c.1 10 (nextN (c.1 10)), c.2.1, c.2.2.1, c.2.2.2) := by rw [mW, if_pos c8, windN, if_neg hn, decide_eq_false (fun z => z (by rw [toldN_m]; exact c63))]
          refine MV.iconst (v := 0) dX12_isWindy_70 (by decide) ?_
          refine MV.zret .boolean dX12_isWindy_71 rfl (rfl) ?_
          exact ⟨by rw [hv]; rfl, by rw [hv]; exact hR.T (frR.q (by decide)) hR.2.1.drawn hR.2.2.ints, frR.q (by decide)⟩
        · skip
          have h63 : ¬ T.1.1 10 ≤ toldN (nextN (c.1 10)) := fun z => c63 (by rw [toldN_m] at z; exact z)
          have hv : (mW (s.1 46) byN T c) = (true, upd c.1 10 (nextN (c.1 10)), c.2.1, c.2.2.1, c.2.2.2) := by rw [mW, if_pos c8, windN, if_neg hn, decide_eq_true h63]
          refine MV.iconst (v := 1) dX12_isWindy_66 (by decide) ?_
          refine MV.goto 71 dX12_isWindy_67 (by decide) ?_
          refine MV.zret .boolean dX12_isWindy_71 rfl (rfl) ?_
          exact ⟨by rw [hv]; rfl, by rw [hv]; exact hR.T (frR.q (by decide)) hR.2.1.drawn hR.2.2.ints, frR.q (by decide)⟩
      · skip
        refine MV.aload_n dX12_isWindy_21 rfl ?_
        refine MV.cV0 yoX12_windyAsItGoes ml_X12_378 im_X12_windyAsItGoes se_X12_windyAsItGoes dX12_isWindy_22 rfl (Nat.le_of_ble_eq_true rfl) (by omega) rfl (Nat.le_of_ble_eq_true rfl) (wAs_M (by omega)) (MV.rdK ?_)
        refine MV.zret .boolean dX12_isWindy_25 rfl (bI_n _) ?_
        have hv : mW (s.1 46) byN T c = (wAsB (s.1 46) (s.2.1 3 5), c) := by
          rw [← hd5]
          unfold mW
          first
          | rw [if_neg (by rw [c8]; decide)]
          | (rw [if_pos c8, hby c8]; unfold windN; rw [if_pos (Or.inl c12), c12]; rfl)
          | (rw [if_pos c8, hby c8]; unfold windN; rw [if_pos (Or.inr c18), c18]; rfl)
        exact ⟨by rw [hv], by rw [hv]; exact hR, frR.rf⟩
set_option maxRecDepth 100000 in
set_option maxHeartbeats 2000000 in
theorem burns_M {d n0 a : Nat} {κ : Kd} {h0 : Hp} (hd : 5 ≤ d) {T : Tx} {s c : St} {r p : Nat} (hr : r < 23) (hR : Rm T s r c) (hp : p < nat (T.1.1 0)) {e : Nat} (he : e < 2) {w : Bool} {nl unb : Int32} (hnl : nl = 0 ↔ ¬ s.1 46 = 4) (hun : nI p = unb ↔ s.1 46 = 2 ∧ nI p = s.1 47) {R : St} (hRR : (if nI p = unb then c else burnE T nl w p (nI e) c) = R) : MV MX12_burns (d, 0, 0, n0, κ) a h0 s 0 [some (.ref a), some (.int (nI r)), some (.int (nI p)), some (.int (nI e)), some (.int (bI w)), none] [] (fun v s' => v = none ∧ Rm T s' r R ∧ frR r s s') := by
  have hp6 := hR.p6 hp
  have eL := (hR.2.1.left hR.1 hp).1
  obtain ⟨b1, b2, b3, b4⟩ := hR.2.1.2.2.2.2.2.1 p hp6
  obtain ⟨L, hL, hL2⟩ := hR.2.2.left hp
  have hJ : ∀ pl : Int32, (if w = true then (2 : Int32) else 1) = pl → ¬ nI p = unb → ¬ (c.2.1 5 p >>> (nI e &&& 31)) &&& 1 = 0 → MV MX12_burns (d, 0, 0, n0, κ) a h0 s 47 [some (.ref a), some (.int (nI r)), some (.int (nI p)), some (.int (nI e)), some (.int (bI w)), some (.int (pl))] [] (fun v s' => v = none ∧ Rm T s' r R ∧ frR r s s') := by
    intro pl hpl hnu hlt
    obtain ⟨B9, hb9, hB9⟩ := burnN_nI (T := T) (nl := nl) (w := w) (p := p) (c := c)
    have hq : cShorten c p (nI e) (burnN T nl w p c) = R := by
      rw [← hRR, if_neg hnu]
      unfold burnE cLitB litB
      rw [decide_eq_true hlt, if_pos rfl]
    refine MV.aload_n dX12_burns_47 rfl ?_
    refine MV.iload_n dX12_burns_48 rfl ?_
    refine MV.iload_n dX12_burns_49 rfl ?_
    refine MV.iload dX12_burns_50 rfl ?_
    refine MV.cV3 yoX12_calls ml_X12_382 im_X12_calls se_X12_calls dX12_burns_52 rfl (Nat.le_of_ble_eq_true rfl) (by omega) rfl (Nat.le_of_ble_eq_true rfl) (calls_M (T := T) (c := c) (w := w) (by omega) hr hR.1 hR.2.1 hR.2.2 hp) ?_
    rintro _ s1 ⟨rfl, hN, k1, k2⟩
    have sc1 : frR r s s1 := ⟨fun j _ => by rw [k1], fun _ _ => by rw [k2], fun _ _ _ _ _ => by rw [k2], fun _ _ _ _ _ => by rw [k2]⟩
    have hR1 : Rm T s1 r c := by
      obtain ⟨q1, q2, q3⟩ := hR
      refine ⟨by rw [k2]; exact q1, ?_, q3⟩
      unfold relC mIn at q2 ⊢
      rw [k2, k1]
      exact q2
    refine MV.aload_n dX12_burns_55 rfl ?_
    refine MV.iload_n dX12_burns_56 rfl ?_
    refine MV.iload_n dX12_burns_57 rfl ?_
    refine MV.iload_n dX12_burns_58 rfl ?_
    refine MV.aload_n dX12_burns_59 rfl ?_
    refine MV.getf 46 fl_X12_375 dX12_burns_60 (by decide) rfl ?_
    refine MV.iconst (v := 4) dX12_burns_63 (by decide) ?_
    refine MV.icmp_ne 72 dX12_burns_64 (by decide) (fun c64 => ?_) (fun c64 => ?_)
    · skip
      have q64 : ¬ s.1 46 = 4 := fun z => c64 (by rw [k1]; exact z)
      refine MV.aload_n dX12_burns_72 rfl ?_
      refine MV.iconst (v := 0) dX12_burns_73 (by decide) ?_
      refine MV.bipush (v := 9) dX12_burns_74 (by decide) ?_
      refine MV.iload dX12_burns_76 rfl ?_
      refine MV.cV3 yoX12_within ml_X12_386 im_X12_within se_X12_within dX12_burns_78 rfl (Nat.le_of_ble_eq_true rfl) (by omega) rfl (Nat.le_of_ble_eq_true rfl) (within_M (T := T) (c := c) (p := p) (q := 0) (k := 9) (w := w) (by omega) (by decide) (by decide) hR1.1 hN) ?_
      rintro _ s2 ⟨x, rfl, hx, sc2⟩
      have hR2 := hR1.sc sc2
      refine MV.eqi (nI B9) (by rw [hx, ← hB9]; unfold burnN; rw [if_pos (hnl.mpr q64), hpl]; rfl) ?_
      refine MV.cV4 yoX12_cuts ml_X12_392 im_X12_cuts se_X12_cuts dX12_burns_81 rfl (Nat.le_of_ble_eq_true rfl) (by omega) rfl (Nat.le_of_ble_eq_true rfl) (cuts_M (T := T) (c := c) (e := nI e) (b := B9) (by omega) hr hR2 hp (by omega) (R := R) (by rw [← hB9]; exact hq)) ?_
      rintro _ s3 ⟨rfl, hR3, f3⟩
      refine MV.vret dX12_burns_84 rfl ?_
      first
      | exact ⟨rfl, hR3, sc1.tr ((frR.sc sc2).tr f3)⟩
      | exact ⟨rfl, hR3, sc1.tr f3⟩
    · skip
      have q64 : s.1 46 = 4 := by rw [← k1]; exact c64
      refine MV.iload dX12_burns_67 rfl ?_
      refine MV.goto 81 dX12_burns_69 (by decide) ?_
      refine MV.eqi (nI B9) (by rw [← hB9, ← hpl]; unfold burnN; rw [if_neg (fun z => hnl.mp z q64)]) ?_
      refine MV.cV4 yoX12_cuts ml_X12_392 im_X12_cuts se_X12_cuts dX12_burns_81 rfl (Nat.le_of_ble_eq_true rfl) (by omega) rfl (Nat.le_of_ble_eq_true rfl) (cuts_M (T := T) (c := c) (e := nI e) (b := B9) (by omega) hr hR1 hp (by omega) (R := R) (by rw [← hB9]; exact hq)) ?_
      rintro _ s3 ⟨rfl, hR3, f3⟩
      refine MV.vret dX12_burns_84 rfl ?_
      first
      | exact ⟨rfl, hR3, sc1.tr ((frR.sc sc2).tr f3)⟩
      | exact ⟨rfl, hR3, sc1.tr f3⟩
  refine MV.aload_n dX12_burns_0 rfl ?_
  refine MV.getf 42 fl_X12_93 dX12_burns_1 (by decide) rfl ?_
  refine MV.bipush (v := 6) dX12_burns_4 (by decide) ?_
  refine MV.iload_n dX12_burns_6 rfl ?_
  refine MV.imul dX12_burns_7 ?_
  refine MV.iload_n dX12_burns_8 rfl ?_
  refine MV.iadd dX12_burns_9 ?_
  refine MV.ald C12_in42 dX12_burns_10 (rix _ _) (by omega) (by decide) ?_
  refine MV.eqi (c.2.1 5 p) b3.symm ?_
  refine MV.iload_n dX12_burns_11 rfl ?_
  refine MV.ishr dX12_burns_12 ?_
  refine MV.iconst (v := 1) dX12_burns_13 (by decide) ?_
  refine MV.iand dX12_burns_14 ?_
  refine MV.if_eq 34 dX12_burns_15 (by decide) (fun c15 => ?_) (fun c15 => ?_)
  · skip
    have hE : (if nI p = unb then c else burnE T nl w p (nI e) c) = c := by
      split
      · rfl
      · unfold burnE cLitB litB; rw [decide_eq_false (fun z => z c15), if_neg (by decide)]
    refine MV.vret dX12_burns_34 rfl ?_
    first
    | exact ⟨rfl, by rw [← hRR, hE]; exact hR, frR.rf⟩
    | exact ⟨rfl, by rw [← hRR, if_pos (hun.mpr ⟨c23, c31⟩)]; exact hR, frR.rf⟩
  · skip
    refine MV.aload_n dX12_burns_18 rfl ?_
    refine MV.getf 46 fl_X12_375 dX12_burns_19 (by decide) rfl ?_
    refine MV.iconst (v := 2) dX12_burns_22 (by decide) ?_
    refine MV.icmp_ne 35 dX12_burns_23 (by decide) (fun c23 => ?_) (fun c23 => ?_)
    · skip
      refine MV.iload dX12_burns_35 rfl ?_
      refine MV.if_eq 44 dX12_burns_37 (by decide) (fun c37 => ?_) (fun c37 => ?_)
      · skip
        have hw := bI_f c37
        subst hw
        refine MV.iconst (v := 1) dX12_burns_44 (by decide) ?_
        refine MV.istore dX12_burns_45 (by decide) rfl ?_
        first
        | exact hJ _ rfl (fun z => c23 (hun.mp z).1) c15
        | exact hJ _ rfl (fun z => c31 (hun.mp z).2) c15
      · skip
        have hw := bI_t c37
        subst hw
        refine MV.iconst (v := 2) dX12_burns_40 (by decide) ?_
        refine MV.goto 45 dX12_burns_41 (by decide) ?_
        refine MV.istore dX12_burns_45 (by decide) rfl ?_
        first
        | exact hJ _ rfl (fun z => c23 (hun.mp z).1) c15
        | exact hJ _ rfl (fun z => c31 (hun.mp z).2) c15
    · skip
      refine MV.iload_n dX12_burns_26 rfl ?_
      refine MV.aload_n dX12_burns_27 rfl ?_
      refine MV.getf 47 fl_X12_99 dX12_burns_28 (by decide) rfl ?_
      refine MV.icmp_ne 35 dX12_burns_31 (by decide) (fun c31 => ?_) (fun c31 => ?_)
      · skip
        refine MV.iload dX12_burns_35 rfl ?_
        refine MV.if_eq 44 dX12_burns_37 (by decide) (fun c37 => ?_) (fun c37 => ?_)
        · skip
          have hw := bI_f c37
          subst hw
          refine MV.iconst (v := 1) dX12_burns_44 (by decide) ?_
          refine MV.istore dX12_burns_45 (by decide) rfl ?_
          first
          | exact hJ _ rfl (fun z => c23 (hun.mp z).1) c15
          | exact hJ _ rfl (fun z => c31 (hun.mp z).2) c15
        · skip
          have hw := bI_t c37
          subst hw
          refine MV.iconst (v := 2) dX12_burns_40 (by decide) ?_
          refine MV.goto 45 dX12_burns_41 (by decide) ?_
          refine MV.istore dX12_burns_45 (by decide) rfl ?_
          first
          | exact hJ _ rfl (fun z => c23 (hun.mp z).1) c15
          | exact hJ _ rfl (fun z => c31 (hun.mp z).2) c15
      · skip
        refine MV.vret dX12_burns_34 rfl ?_
        first
        | exact ⟨rfl, by rw [← hRR, hE]; exact hR, frR.rf⟩
        | exact ⟨rfl, by rw [← hRR, if_pos (hun.mpr ⟨c23, c31⟩)]; exact hR, frR.rf⟩
