/-! Candles: its readers -/
def cLeft (s : St) (i : Nat) : Int32 := s.2.1 1 i - s.2.1 3 i - s.2.1 4 i
def cIsLeft (s : St) (i : Nat) (x : Int32) : Bool := decide (¬ x < s.2.1 3 i) && decide (¬ s.2.1 1 i - s.2.1 4 i ≤ x)
def cLitB (s : St) (i : Nat) (e : Int32) : Bool := decide (¬ (s.2.1 5 i >>> (e &&& 31)) &&& 1 = 0)
set_option maxRecDepth 100000 in
set_option maxHeartbeats 1000000 in
theorem leftOf_V {d n0 : Nat} {κ : Kd} (hd : 1 ≤ d) {h : Hp} {a i : Nat} {s : St} (H : isR C0 h a s) (hi : i < 6) : V MX0_leftOf (d, 0, 0, n0, κ) 0 0 h 0 [some (.ref a), some (.int (nI i))] [] (Rd h (.int (cLeft s i))) := by
  refine V.aload_n dX0_leftOf_0 rfl ?_
  refine V.getf okX0 1 fl_X0_9 dX0_leftOf_1 (by decide) H.1 rfl ?_
  refine V.iload_n dX0_leftOf_4 rfl ?_
  refine V.ialdN dX0_leftOf_5 (C0_r1 H) (rfl) (by omega) (by decide) ?_
  refine V.aload_n dX0_leftOf_6 rfl ?_
  refine V.getf okX0 3 fl_X0_19 dX0_leftOf_7 (by decide) H.1 rfl ?_
  refine V.iload_n dX0_leftOf_10 rfl ?_
  refine V.ialdN dX0_leftOf_11 (C0_r3 H) (rfl) (by omega) (by decide) ?_
  refine V.isub dX0_leftOf_12 ?_
  refine V.aload_n dX0_leftOf_13 rfl ?_
  refine V.getf okX0 4 fl_X0_22 dX0_leftOf_14 (by decide) H.1 rfl ?_
  refine V.iload_n dX0_leftOf_17 rfl ?_
  refine V.ialdN dX0_leftOf_18 (C0_r4 H) (rfl) (by omega) (by decide) ?_
  refine V.isub dX0_leftOf_19 ?_
  refine V.iret dX0_leftOf_20 rfl ?_
  exact ⟨rfl, rfl⟩
set_option maxRecDepth 100000 in
set_option maxHeartbeats 1000000 in
theorem isLeft_V {d n0 : Nat} {κ : Kd} (hd : 1 ≤ d) {h : Hp} {a i : Nat} {s : St} (H : isR C0 h a s) (hi : i < 6) {x : Int32} : V MX0_isLeft (d, 0, 0, n0, κ) 0 0 h 0 [some (.ref a), some (.int (nI i)), some (.int x)] [] (Rd h (.int (bI (cIsLeft s i x)))) := by
  refine V.iload_n dX0_isLeft_0 rfl ?_
  refine V.aload_n dX0_isLeft_1 rfl ?_
  refine V.getf okX0 3 fl_X0_19 dX0_isLeft_2 (by decide) H.1 rfl ?_
  refine V.iload_n dX0_isLeft_5 rfl ?_
  refine V.ialdN dX0_isLeft_6 (C0_r3 H) (rfl) (by omega) (by decide) ?_
  refine V.icmp_lt 31 dX0_isLeft_7 (by decide) (fun c7 => ?_) (fun c7 => ?_)
  · skip
    refine V.iconst (v := 0) dX0_isLeft_31 (by decide) ?_
    refine V.zret .boolean dX0_isLeft_32 rfl (rfl) ?_
    exact ⟨by simp_all [cIsLeft, bI], rfl⟩
  · skip
    refine V.iload_n dX0_isLeft_10 rfl ?_
    refine V.aload_n dX0_isLeft_11 rfl ?_
    refine V.getf okX0 1 fl_X0_9 dX0_isLeft_12 (by decide) H.1 rfl ?_
    refine V.iload_n dX0_isLeft_15 rfl ?_
    refine V.ialdN dX0_isLeft_16 (C0_r1 H) (rfl) (by omega) (by decide) ?_
    refine V.aload_n dX0_isLeft_17 rfl ?_
    refine V.getf okX0 4 fl_X0_22 dX0_isLeft_18 (by decide) H.1 rfl ?_
    refine V.iload_n dX0_isLeft_21 rfl ?_
    refine V.ialdN dX0_isLeft_22 (C0_r4 H) (rfl) (by omega) (by decide) ?_
    refine V.isub dX0_isLeft_23 ?_
    refine V.icmp_ge 31 dX0_isLeft_24 (by decide) (fun c24 => ?_) (fun c24 => ?_)
    · skip
      refine V.iconst (v := 0) dX0_isLeft_31 (by decide) ?_
      refine V.zret .boolean dX0_isLeft_32 rfl (rfl) ?_
      exact ⟨by simp_all [cIsLeft, bI], rfl⟩
    · skip
      refine V.iconst (v := 1) dX0_isLeft_27 (by decide) ?_
      refine V.goto 32 dX0_isLeft_28 (by decide) ?_
      refine V.zret .boolean dX0_isLeft_32 rfl (rfl) ?_
      exact ⟨by simp_all [cIsLeft, bI], rfl⟩
set_option maxRecDepth 100000 in
set_option maxHeartbeats 1000000 in
theorem isLit_V {d n0 : Nat} {κ : Kd} (hd : 1 ≤ d) {h : Hp} {a i : Nat} {s : St} (H : isR C0 h a s) (hi : i < 6) {e : Int32} : V MX0_isLit (d, 0, 0, n0, κ) 0 0 h 0 [some (.ref a), some (.int (nI i)), some (.int e)] [] (Rd h (.int (bI (cLitB s i e)))) := by
  refine V.aload_n dX0_isLit_0 rfl ?_
  refine V.getf okX0 5 fl_X0_25 dX0_isLit_1 (by decide) H.1 rfl ?_
  refine V.iload_n dX0_isLit_4 rfl ?_
  refine V.ialdN dX0_isLit_5 (C0_r5 H) (rfl) (by omega) (by decide) ?_
  refine V.iload_n dX0_isLit_6 rfl ?_
  refine V.ishr dX0_isLit_7 ?_
  refine V.iconst (v := 1) dX0_isLit_8 (by decide) ?_
  refine V.iand dX0_isLit_9 ?_
  refine V.if_eq 17 dX0_isLit_10 (by decide) (fun c10 => ?_) (fun c10 => ?_)
  · skip
    refine V.iconst (v := 0) dX0_isLit_17 (by decide) ?_
    refine V.zret .boolean dX0_isLit_18 rfl (rfl) ?_
    exact ⟨by simp_all [cLitB, bI], rfl⟩
  · skip
    refine V.iconst (v := 1) dX0_isLit_13 (by decide) ?_
    refine V.goto 18 dX0_isLit_14 (by decide) ?_
    refine V.zret .boolean dX0_isLit_18 rfl (rfl) ?_
    exact ⟨by simp_all [cLitB, bI], rfl⟩
set_option maxRecDepth 100000 in
set_option maxHeartbeats 1000000 in
theorem canBeLit_V {d n0 : Nat} {κ : Kd} (hd : 2 ≤ d) {h : Hp} {a i : Nat} {s : St} (H : isR C0 h a s) (hi : i < 6) {e : Int32} : V MX0_canBeLit (d, 0, 0, n0, κ) 0 0 h 0 [some (.ref a), some (.int (nI i)), some (.int e)] [] (Rd h (.int (bI (!cLitB s i e && decide (¬ cLeft s i ≤ 0))))) := by
  refine V.aload_n dX0_canBeLit_0 rfl ?_
  refine V.iload_n dX0_canBeLit_1 rfl ?_
  refine V.iload_n dX0_canBeLit_2 rfl ?_
  refine V.cV2 (ci := 0) yoX0_isLit ml_X0_79 im_X0_isLit se_X0_isLit dX0_canBeLit_3 rfl H.1 (by decide) (by omega) ⟨Nat.le_refl _, Nat.le_refl _⟩ rfl (Nat.le_of_ble_eq_true rfl) (isLit_V (by omega) H hi) (V.rdK ?_)
  refine V.if_ne 21 dX0_canBeLit_6 (by decide) (fun c6 => ?_) (fun c6 => ?_)
  · skip
    refine V.iconst (v := 0) dX0_canBeLit_21 (by decide) ?_
    refine V.zret .boolean dX0_canBeLit_22 rfl (rfl) ?_
    exact ⟨by simp_all [bI], rfl⟩
  · skip
    refine V.aload_n dX0_canBeLit_9 rfl ?_
    refine V.iload_n dX0_canBeLit_10 rfl ?_
    refine V.cV1 (ci := 0) yoX0_leftOf ml_X0_83 im_X0_leftOf se_X0_leftOf dX0_canBeLit_11 rfl H.1 (by decide) (by omega) ⟨Nat.le_refl _, Nat.le_refl _⟩ rfl (Nat.le_of_ble_eq_true rfl) (leftOf_V (by omega) H hi) (V.rdK ?_)
    refine V.if_le 21 dX0_canBeLit_14 (by decide) (fun c14 => ?_) (fun c14 => ?_)
    · skip
      refine V.iconst (v := 0) dX0_canBeLit_21 (by decide) ?_
      refine V.zret .boolean dX0_canBeLit_22 rfl (rfl) ?_
      exact ⟨by simp_all [bI], rfl⟩
    · skip
      refine V.iconst (v := 1) dX0_canBeLit_17 (by decide) ?_
      refine V.goto 22 dX0_canBeLit_18 (by decide) ?_
      refine V.zret .boolean dX0_canBeLit_22 rfl (rfl) ?_
      exact ⟨by simp_all [bI], rfl⟩
