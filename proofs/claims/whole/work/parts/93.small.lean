/-! The model text: small methods of the parser -/
theorem bI_dt {p : Prop} [Decidable p] (h : p) : bI (decide p) = 1 := by rw [decide_eq_true h]; rfl
theorem bI_df {p : Prop} [Decidable p] (h : ¬ p) : bI (decide p) = 0 := by rw [decide_eq_false h]; rfl
set_option maxRecDepth 100000 in
set_option maxHeartbeats 1000000 in
theorem fresher_M {d n0 a : Nat} {κ : Kd} {h0 : Hp} (hd : 1 ≤ d) {s : St} {k : Nat} (hk : k < 8) : MV MX12_fresher (d, 0, 0, n0, κ) a h0 s 0 [some (.ref a), some (.int (nI k))] [] (mR s (.int (s.2.1 3 (8 + k)))) := by
  refine MV.aload_n dX12_fresher_0 rfl ?_
  refine MV.getf 3 fl_X12_13 dX12_fresher_1 (by decide) rfl ?_
  refine MV.bipush (v := 8) dX12_fresher_4 (by decide) ?_
  refine MV.iload_n dX12_fresher_6 rfl ?_
  refine MV.iadd dX12_fresher_7 ?_
  refine MV.ald C12_in3 dX12_fresher_8 (nI_add 8 k) (by omega) (by decide) ?_
  refine MV.iret dX12_fresher_9 rfl ?_
  exact ⟨rfl, rfl⟩
set_option maxRecDepth 100000 in
set_option maxHeartbeats 1000000 in
theorem reads_M {d n0 a : Nat} {κ : Kd} {h0 : Hp} (hd : 1 ≤ d) {s : St} {k : Nat} {v : Int32} (hk : k < 8) : MV MX12_reads (d, 0, 0, n0, κ) a h0 s 0 [some (.ref a), some (.int (nI k)), some (.int (v))] [] (fun w s' => w = none ∧ s' = mA s 3 (8 + k) v) := by
  refine MV.aload_n dX12_reads_0 rfl ?_
  refine MV.getf 3 fl_X12_13 dX12_reads_1 (by decide) rfl ?_
  refine MV.bipush (v := 8) dX12_reads_4 (by decide) ?_
  refine MV.iload_n dX12_reads_6 rfl ?_
  refine MV.iadd dX12_reads_7 ?_
  refine MV.iload_n dX12_reads_8 rfl ?_
  refine MV.ast C12_in3 dX12_reads_9 (nI_add 8 k) (by omega) (by decide) ?_
  refine MV.vret dX12_reads_10 rfl ?_
  exact ⟨rfl, rfl⟩
set_option maxRecDepth 100000 in
set_option maxHeartbeats 1000000 in
theorem wrong0_M {d n0 a : Nat} {κ : Kd} {h0 : Hp} (hd : 1 ≤ d) {s : St} {k : Int32} (hf : s.1 27 = 0) : MV MX12_wrong (d, 0, 0, n0, κ) a h0 s 0 [some (.ref a), some (.int (k))] [] (fun v s' => v = none ∧ s' = mI (mI s 27 k) 28 (s.1 24)) := by
  refine MV.aload_n dX12_wrong_0 rfl ?_
  refine MV.getf 27 fl_X12_202 dX12_wrong_1 (by decide) rfl ?_
  refine MV.if_eq 8 dX12_wrong_4 (by decide) (fun _ => ?_) (fun z => absurd (hf) z)
  refine MV.aload_n dX12_wrong_8 rfl ?_
  refine MV.iload_n dX12_wrong_9 rfl ?_
  refine MV.putf 27 fl_X12_202 dX12_wrong_10 (by decide) rfl (rfl) (rfl) C12_s27 ?_
  refine MV.aload_n dX12_wrong_13 rfl ?_
  refine MV.aload_n dX12_wrong_14 rfl ?_
  refine MV.getf 24 fl_X12_164 dX12_wrong_15 (by decide) rfl ?_
  refine MV.putf 28 fl_X12_205 dX12_wrong_18 (by decide) rfl (rfl) (rfl) C12_s28 ?_
  refine MV.vret dX12_wrong_21 rfl ?_
  exact ⟨rfl, rfl⟩
set_option maxRecDepth 100000 in
set_option maxHeartbeats 1000000 in
theorem wrong1_M {d n0 a : Nat} {κ : Kd} {h0 : Hp} (hd : 1 ≤ d) {s : St} {k : Int32} (hf : ¬ s.1 27 = 0) : MV MX12_wrong (d, 0, 0, n0, κ) a h0 s 0 [some (.ref a), some (.int (k))] [] (fun v s' => v = none ∧ s' = s) := by
  refine MV.aload_n dX12_wrong_0 rfl ?_
  refine MV.getf 27 fl_X12_202 dX12_wrong_1 (by decide) rfl ?_
  refine MV.if_eq 8 dX12_wrong_4 (by decide) (fun z => absurd z (hf)) (fun _ => ?_)
  refine MV.vret dX12_wrong_7 rfl ?_
  exact ⟨rfl, rfl⟩
set_option maxRecDepth 100000 in
set_option maxHeartbeats 1000000 in
theorem isWord_M {d n0 a : Nat} {κ : Kd} {h0 : Hp} (hd : 1 ≤ d) {s : St} {w : Int32} : MV MX12_isWord (d, 0, 0, n0, κ) a h0 s 0 [some (.ref a), some (.int (w))] [] (mR s (.int (bI (decide (s.1 27 = 0 ∧ s.1 25 = 0 ∧ s.1 26 = w))))) := by
  refine MV.aload_n dX12_isWord_0 rfl ?_
  refine MV.getf 27 fl_X12_202 dX12_isWord_1 (by decide) rfl ?_
  refine MV.if_ne 26 dX12_isWord_4 (by decide) (fun c4 => ?_) (fun c4 => ?_)
  · skip
    refine MV.iconst (v := 0) dX12_isWord_26 (by decide) ?_
    refine MV.zret .boolean dX12_isWord_27 rfl (rfl) ?_
    first
    | (refine ⟨?_, rfl⟩; rw [bI_dt ⟨c4, c11, c19⟩]; done)
    | (refine ⟨?_, rfl⟩; rw [bI_df (fun z => c4 z.1)]; done)
    | (refine ⟨?_, rfl⟩; rw [bI_df (fun z => c11 z.2.1)]; done)
    | (refine ⟨?_, rfl⟩; rw [bI_df (fun z => c19 z.2.2)]; done)
  · skip
    refine MV.aload_n dX12_isWord_7 rfl ?_
    refine MV.getf 25 fl_X12_167 dX12_isWord_8 (by decide) rfl ?_
    refine MV.if_ne 26 dX12_isWord_11 (by decide) (fun c11 => ?_) (fun c11 => ?_)
    · skip
      refine MV.iconst (v := 0) dX12_isWord_26 (by decide) ?_
      refine MV.zret .boolean dX12_isWord_27 rfl (rfl) ?_
      first
      | (refine ⟨?_, rfl⟩; rw [bI_dt ⟨c4, c11, c19⟩]; done)
      | (refine ⟨?_, rfl⟩; rw [bI_df (fun z => c4 z.1)]; done)
      | (refine ⟨?_, rfl⟩; rw [bI_df (fun z => c11 z.2.1)]; done)
      | (refine ⟨?_, rfl⟩; rw [bI_df (fun z => c19 z.2.2)]; done)
    · skip
      refine MV.aload_n dX12_isWord_14 rfl ?_
      refine MV.getf 26 fl_X12_177 dX12_isWord_15 (by decide) rfl ?_
      refine MV.iload_n dX12_isWord_18 rfl ?_
      refine MV.icmp_ne 26 dX12_isWord_19 (by decide) (fun c19 => ?_) (fun c19 => ?_)
      · skip
        refine MV.iconst (v := 0) dX12_isWord_26 (by decide) ?_
        refine MV.zret .boolean dX12_isWord_27 rfl (rfl) ?_
        first
        | (refine ⟨?_, rfl⟩; rw [bI_dt ⟨c4, c11, c19⟩]; done)
        | (refine ⟨?_, rfl⟩; rw [bI_df (fun z => c4 z.1)]; done)
        | (refine ⟨?_, rfl⟩; rw [bI_df (fun z => c11 z.2.1)]; done)
        | (refine ⟨?_, rfl⟩; rw [bI_df (fun z => c19 z.2.2)]; done)
      · skip
        refine MV.iconst (v := 1) dX12_isWord_22 (by decide) ?_
        refine MV.goto 27 dX12_isWord_23 (by decide) ?_
        refine MV.zret .boolean dX12_isWord_27 rfl (rfl) ?_
        first
        | (refine ⟨?_, rfl⟩; rw [bI_dt ⟨c4, c11, c19⟩]; done)
        | (refine ⟨?_, rfl⟩; rw [bI_df (fun z => c4 z.1)]; done)
        | (refine ⟨?_, rfl⟩; rw [bI_df (fun z => c11 z.2.1)]; done)
        | (refine ⟨?_, rfl⟩; rw [bI_df (fun z => c19 z.2.2)]; done)
set_option maxRecDepth 100000 in
set_option maxHeartbeats 1000000 in
theorem isSign_M {d n0 a : Nat} {κ : Kd} {h0 : Hp} (hd : 1 ≤ d) {s : St} {w : Int32} : MV MX12_isSign (d, 0, 0, n0, κ) a h0 s 0 [some (.ref a), some (.int (w))] [] (mR s (.int (bI (decide (s.1 27 = 0 ∧ s.1 25 = 3 ∧ s.1 26 = w))))) := by
  refine MV.aload_n dX12_isSign_0 rfl ?_
  refine MV.getf 27 fl_X12_202 dX12_isSign_1 (by decide) rfl ?_
  refine MV.if_ne 27 dX12_isSign_4 (by decide) (fun c4 => ?_) (fun c4 => ?_)
  · skip
    refine MV.iconst (v := 0) dX12_isSign_27 (by decide) ?_
    refine MV.zret .boolean dX12_isSign_28 rfl (rfl) ?_
    first
    | (refine ⟨?_, rfl⟩; rw [bI_dt ⟨c4, c12, c20⟩]; done)
    | (refine ⟨?_, rfl⟩; rw [bI_df (fun z => c4 z.1)]; done)
    | (refine ⟨?_, rfl⟩; rw [bI_df (fun z => c12 z.2.1)]; done)
    | (refine ⟨?_, rfl⟩; rw [bI_df (fun z => c20 z.2.2)]; done)
  · skip
    refine MV.aload_n dX12_isSign_7 rfl ?_
    refine MV.getf 25 fl_X12_167 dX12_isSign_8 (by decide) rfl ?_
    refine MV.iconst (v := 3) dX12_isSign_11 (by decide) ?_
    refine MV.icmp_ne 27 dX12_isSign_12 (by decide) (fun c12 => ?_) (fun c12 => ?_)
    · skip
      refine MV.iconst (v := 0) dX12_isSign_27 (by decide) ?_
      refine MV.zret .boolean dX12_isSign_28 rfl (rfl) ?_
      first
      | (refine ⟨?_, rfl⟩; rw [bI_dt ⟨c4, c12, c20⟩]; done)
      | (refine ⟨?_, rfl⟩; rw [bI_df (fun z => c4 z.1)]; done)
      | (refine ⟨?_, rfl⟩; rw [bI_df (fun z => c12 z.2.1)]; done)
      | (refine ⟨?_, rfl⟩; rw [bI_df (fun z => c20 z.2.2)]; done)
    · skip
      refine MV.aload_n dX12_isSign_15 rfl ?_
      refine MV.getf 26 fl_X12_177 dX12_isSign_16 (by decide) rfl ?_
      refine MV.iload_n dX12_isSign_19 rfl ?_
      refine MV.icmp_ne 27 dX12_isSign_20 (by decide) (fun c20 => ?_) (fun c20 => ?_)
      · skip
        refine MV.iconst (v := 0) dX12_isSign_27 (by decide) ?_
        refine MV.zret .boolean dX12_isSign_28 rfl (rfl) ?_
        first
        | (refine ⟨?_, rfl⟩; rw [bI_dt ⟨c4, c12, c20⟩]; done)
        | (refine ⟨?_, rfl⟩; rw [bI_df (fun z => c4 z.1)]; done)
        | (refine ⟨?_, rfl⟩; rw [bI_df (fun z => c12 z.2.1)]; done)
        | (refine ⟨?_, rfl⟩; rw [bI_df (fun z => c20 z.2.2)]; done)
      · skip
        refine MV.iconst (v := 1) dX12_isSign_23 (by decide) ?_
        refine MV.goto 28 dX12_isSign_24 (by decide) ?_
        refine MV.zret .boolean dX12_isSign_28 rfl (rfl) ?_
        first
        | (refine ⟨?_, rfl⟩; rw [bI_dt ⟨c4, c12, c20⟩]; done)
        | (refine ⟨?_, rfl⟩; rw [bI_df (fun z => c4 z.1)]; done)
        | (refine ⟨?_, rfl⟩; rw [bI_df (fun z => c12 z.2.1)]; done)
        | (refine ⟨?_, rfl⟩; rw [bI_df (fun z => c20 z.2.2)]; done)
set_option maxRecDepth 100000 in
set_option maxHeartbeats 1000000 in
theorem goOn1_M {d n0 a : Nat} {κ : Kd} {h0 : Hp} (hd : 1 ≤ d) {s : St} (hf : ¬ s.1 27 = 0) : MV MX12_goOn (d, 0, 0, n0, κ) a h0 s 0 [some (.ref a)] [] (fun v s' => v = none ∧ s' = s) := by
  refine MV.aload_n dX12_goOn_0 rfl ?_
  refine MV.getf 27 fl_X12_202 dX12_goOn_1 (by decide) rfl ?_
  refine MV.if_ne 11 dX12_goOn_4 (by decide) (fun _ => ?_) (fun z => absurd z (hf))
  refine MV.vret dX12_goOn_11 rfl ?_
  exact ⟨rfl, rfl⟩
set_option maxRecDepth 100000 in
set_option maxHeartbeats 1000000 in
theorem goOn0_M {d n0 a : Nat} {κ : Kd} {h0 : Hp} (hd : 8 ≤ d) {s : St} {n : Nat} {q : Tk} (e22 : s.1 22 = nI n) (e23 : s.1 23 = nI q.1) (hn : n ≤ 700) (hq : q.1 ≤ n) (hbb : ∀ k, k < n → ¬ s.2.1 1 k = -1 ∧ s.2.1 1 k < 256) (hf : s.1 27 = 0) : MV MX12_goOn (d, 0, 0, n0, κ) a h0 s 0 [some (.ref a)] [] (fun v s' => v = none ∧ frK2 s s' ∧ kRel s' (tokN (s.2.1 1) n q)) := by
  refine MV.aload_n dX12_goOn_0 rfl ?_
  refine MV.getf 27 fl_X12_202 dX12_goOn_1 (by decide) rfl ?_
  refine MV.if_ne 11 dX12_goOn_4 (by decide) (fun z => absurd (hf) z) (fun _ => ?_)
  refine MV.aload_n dX12_goOn_7 rfl ?_
  refine MV.cV0 yoX12_token ml_X12_208 im_X12_token se_X12_token dX12_goOn_8 rfl (Nat.le_of_ble_eq_true rfl) (by omega) rfl (Nat.le_of_ble_eq_true rfl) (tok_M (q := q) (by omega) e22 e23 hn hq hbb) ?_
  rintro _ s2 ⟨rfl, h1, h2⟩
  refine MV.vret dX12_goOn_11 rfl ?_
  exact ⟨rfl, h1, h2⟩
set_option maxRecDepth 100000 in
set_option maxHeartbeats 1000000 in
theorem knot1_M {d n0 a : Nat} {κ : Kd} {h0 : Hp} (hd : 1 ≤ d) {s : St} (hf : ¬ s.1 27 = 0) : MV MX12_knot (d, 0, 0, n0, κ) a h0 s 0 [some (.ref a)] [] (fun v s' => v = none ∧ s' = s) := by
  refine MV.aload_n dX12_knot_0 rfl ?_
  refine MV.getf 27 fl_X12_202 dX12_knot_1 (by decide) rfl ?_
  refine MV.if_eq 8 dX12_knot_4 (by decide) (fun z => absurd z (hf)) (fun _ => ?_)
  refine MV.vret dX12_knot_7 rfl ?_
  exact ⟨rfl, rfl⟩
set_option maxRecDepth 100000 in
set_option maxHeartbeats 1000000 in
theorem knot0_M {d n0 a : Nat} {κ : Kd} {h0 : Hp} (hd : 1 ≤ d) {s : St} (hf : s.1 27 = 0) (hk : ¬ s.1 32 = 64) : MV MX12_knot (d, 0, 0, n0, κ) a h0 s 0 [some (.ref a)] [] (fun v s' => v = none ∧ s' = mI s 32 (s.1 32 + 1)) := by
  refine MV.aload_n dX12_knot_0 rfl ?_
  refine MV.getf 27 fl_X12_202 dX12_knot_1 (by decide) rfl ?_
  refine MV.if_eq 8 dX12_knot_4 (by decide) (fun _ => ?_) (fun z => absurd (hf) z)
  refine MV.aload_n dX12_knot_8 rfl ?_
  refine MV.getf 32 fl_X12_267 dX12_knot_9 (by decide) rfl ?_
  refine MV.bipush (v := 64) dX12_knot_12 (by decide) ?_
  refine MV.icmp_ne 25 dX12_knot_14 (by decide) (fun _ => ?_) (fun z => absurd z (hk))
  refine MV.aload_n dX12_knot_25 rfl ?_
  refine MV.dup dX12_knot_26 rfl ?_
  refine MV.getf 32 fl_X12_267 dX12_knot_27 (by decide) rfl ?_
  refine MV.iconst (v := 1) dX12_knot_30 (by decide) ?_
  refine MV.iadd dX12_knot_31 ?_
  refine MV.putf 32 fl_X12_267 dX12_knot_32 (by decide) rfl (rfl) (rfl) C12_s32 ?_
  refine MV.vret dX12_knot_35 rfl ?_
  exact ⟨rfl, rfl⟩
set_option maxRecDepth 100000 in
set_option maxHeartbeats 1000000 in
theorem knotF_M {d n0 a : Nat} {κ : Kd} {h0 : Hp} (hd : 2 ≤ d) {s : St} (hf : s.1 27 = 0) (hk : s.1 32 = 64) : MV MX12_knot (d, 0, 0, n0, κ) a h0 s 0 [some (.ref a)] [] (fun v s' => v = none ∧ s' = mI (mI s 27 2) 28 (s.1 24)) := by
  refine MV.aload_n dX12_knot_0 rfl ?_
  refine MV.getf 27 fl_X12_202 dX12_knot_1 (by decide) rfl ?_
  refine MV.if_eq 8 dX12_knot_4 (by decide) (fun _ => ?_) (fun z => absurd (hf) z)
  refine MV.aload_n dX12_knot_8 rfl ?_
  refine MV.getf 32 fl_X12_267 dX12_knot_9 (by decide) rfl ?_
  refine MV.bipush (v := 64) dX12_knot_12 (by decide) ?_
  refine MV.icmp_ne 25 dX12_knot_14 (by decide) (fun z => absurd (hk) z) (fun _ => ?_)
  refine MV.aload_n dX12_knot_17 rfl ?_
  refine MV.iconst (v := 2) dX12_knot_18 (by decide) ?_
  refine MV.cV1 yoX12_wrong ml_X12_211 im_X12_wrong se_X12_wrong dX12_knot_19 rfl (Nat.le_of_ble_eq_true rfl) (by omega) rfl (Nat.le_of_ble_eq_true rfl) (wrong0_M (by omega) hf) ?_
  rintro _ _ ⟨rfl, rfl⟩
  refine MV.goto 35 dX12_knot_22 (by decide) ?_
  refine MV.vret dX12_knot_35 rfl ?_
  exact ⟨rfl, rfl⟩
set_option maxRecDepth 100000 in
set_option maxHeartbeats 1000000 in
theorem puts1_M {d n0 a : Nat} {κ : Kd} {h0 : Hp} (hd : 1 ≤ d) {s : St} {x v : Int32} (hf : ¬ s.1 27 = 0) : MV MX12_puts (d, 0, 0, n0, κ) a h0 s 0 [some (.ref a), some (.int (x)), some (.int (v))] [] (fun w s' => w = none ∧ s' = s) := by
  refine MV.aload_n dX12_puts_0 rfl ?_
  refine MV.getf 27 fl_X12_202 dX12_puts_1 (by decide) rfl ?_
  refine MV.if_eq 8 dX12_puts_4 (by decide) (fun z => absurd z (hf)) (fun _ => ?_)
  refine MV.vret dX12_puts_7 rfl ?_
  exact ⟨rfl, rfl⟩
def putS (s : St) (p : Nat) (x v : Int32) : St := mA (mA (mA s 18 (64 + p) x) 19 (64 + p) v) 3 15 (nI (p + 1))
set_option maxRecDepth 100000 in
set_option maxHeartbeats 1000000 in
theorem puts0_M {d n0 a : Nat} {κ : Kd} {h0 : Hp} (hd : 2 ≤ d) {s : St} {p : Nat} {x v : Int32} (hf : s.1 27 = 0) (hp : s.2.1 3 15 = nI p) (hb : p < 64) : MV MX12_puts (d, 0, 0, n0, κ) a h0 s 0 [some (.ref a), some (.int (x)), some (.int (v))] [] (fun w s' => w = none ∧ s' = putS s p x v) := by
  refine MV.aload_n dX12_puts_0 rfl ?_
  refine MV.getf 27 fl_X12_202 dX12_puts_1 (by decide) rfl ?_
  refine MV.if_eq 8 dX12_puts_4 (by decide) (fun _ => ?_) (fun z => absurd (hf) z)
  refine MV.aload_n dX12_puts_8 rfl ?_
  refine MV.getf 18 fl_X12_58 dX12_puts_9 (by decide) rfl ?_
  refine MV.bipush (v := 64) dX12_puts_12 (by decide) ?_
  refine MV.aload_n dX12_puts_14 rfl ?_
  refine MV.bipush (v := nI 7) dX12_puts_15 (by decide) ?_
  refine MV.cV1 yoX12_fresher ml_X12_218 im_X12_fresher se_X12_fresher dX12_puts_17 rfl (Nat.le_of_ble_eq_true rfl) (by omega) rfl (Nat.le_of_ble_eq_true rfl) (fresher_M (k := 7) (by omega) (by omega)) (MV.rdK ?_)
  refine MV.eqi (nI p) hp ?_
  refine MV.iadd dX12_puts_20 ?_
  refine MV.iload_n dX12_puts_21 rfl ?_
  refine MV.ast C12_in18 dX12_puts_22 (nI_add 64 p) (by omega) (by decide) ?_
  refine MV.aload_n dX12_puts_23 rfl ?_
  refine MV.getf 19 fl_X12_61 dX12_puts_24 (by decide) rfl ?_
  refine MV.bipush (v := 64) dX12_puts_27 (by decide) ?_
  refine MV.aload_n dX12_puts_29 rfl ?_
  refine MV.bipush (v := nI 7) dX12_puts_30 (by decide) ?_
  refine MV.cV1 yoX12_fresher ml_X12_218 im_X12_fresher se_X12_fresher dX12_puts_32 rfl (Nat.le_of_ble_eq_true rfl) (by omega) rfl (Nat.le_of_ble_eq_true rfl) (fresher_M (s := mA s 18 (64 + p) x) (k := 7) (by omega) (by omega)) (MV.rdK ?_)
  refine MV.eqi (nI p) hp ?_
  refine MV.iadd dX12_puts_35 ?_
  refine MV.iload_n dX12_puts_36 rfl ?_
  refine MV.ast C12_in19 dX12_puts_37 (nI_add 64 p) (by omega) (by decide) ?_
  refine MV.aload_n dX12_puts_38 rfl ?_
  refine MV.bipush (v := nI 7) dX12_puts_39 (by decide) ?_
  refine MV.aload_n dX12_puts_41 rfl ?_
  refine MV.bipush (v := nI 7) dX12_puts_42 (by decide) ?_
  refine MV.cV1 yoX12_fresher ml_X12_218 im_X12_fresher se_X12_fresher dX12_puts_44 rfl (Nat.le_of_ble_eq_true rfl) (by omega) rfl (Nat.le_of_ble_eq_true rfl) (fresher_M (s := mA (mA s 18 (64 + p) x) 19 (64 + p) v) (k := 7) (by omega) (by omega)) (MV.rdK ?_)
  refine MV.eqi (nI p) hp ?_
  refine MV.iconst (v := 1) dX12_puts_47 (by decide) ?_
  refine MV.iadd dX12_puts_48 ?_
  refine MV.eqi (nI (p + 1)) (nI_1 p) ?_
  refine MV.cV2 yoX12_reads ml_X12_242 im_X12_reads se_X12_reads dX12_puts_49 rfl (Nat.le_of_ble_eq_true rfl) (by omega) rfl (Nat.le_of_ble_eq_true rfl) (reads_M (s := mA (mA s 18 (64 + p) x) 19 (64 + p) v) (k := 7) (v := nI (p + 1)) (by omega) (by omega)) ?_
  rintro _ _ ⟨rfl, rfl⟩
  refine MV.vret dX12_puts_52 rfl ?_
  exact ⟨rfl, rfl⟩
