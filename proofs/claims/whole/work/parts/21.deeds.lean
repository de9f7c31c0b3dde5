/-! Deeds -/
def dFull (s : St) : Bool := decide (¬ s.1 0 < s.1 1)
def dDue (s : St) (k : Nat) (hour men : Int32) : Bool := decide (s.2.1 4 k = hour) && litB men (s.2.1 2 k)
def dAdd (s : St) (z : Nat) (man e hour : Int32) : St := (upd s.1 0 (nI (z + 1)), uA (uA (uA s.2.1 2 z man) 3 z e) 4 z hour, s.2.2)
set_option maxRecDepth 100000 in
set_option maxHeartbeats 1000000 in
theorem dFull_V {d n0 : Nat} {κ : Kd} (hd : 1 ≤ d) {h : Hp} {a : Nat} {s : St} (H : isR C2 h a s) : V MX2_isFull (d, 0, 0, n0, κ) 0 0 h 0 [some (.ref a)] [] (Rd h (.int (bI (dFull s)))) := by
  refine V.aload_n dX2_isFull_0 rfl ?_
  refine V.getf okX2 0 fl_X2_31 dX2_isFull_1 (by decide) H.1 rfl ?_
  refine V.aload_n dX2_isFull_4 rfl ?_
  refine V.getf okX2 1 fl_X2_27 dX2_isFull_5 (by decide) H.1 rfl ?_
  refine V.icmp_lt 15 dX2_isFull_8 (by decide) (fun c8 => ?_) (fun c8 => ?_)
  · skip
    refine V.iconst (v := 0) dX2_isFull_15 (by decide) ?_
    refine V.zret .boolean dX2_isFull_16 rfl (rfl) ?_
    exact ⟨by simp_all [dFull, bI], rfl⟩
  · skip
    refine V.iconst (v := 1) dX2_isFull_11 (by decide) ?_
    refine V.goto 16 dX2_isFull_12 (by decide) ?_
    refine V.zret .boolean dX2_isFull_16 rfl (rfl) ?_
    exact ⟨by simp_all [dFull, bI], rfl⟩
set_option maxRecDepth 100000 in
set_option maxHeartbeats 1000000 in
theorem dDue_V {d n0 : Nat} {κ : Kd} (hd : 1 ≤ d) {h : Hp} {a : Nat} {s : St} (H : isR C2 h a s) {k : Nat} {hour men : Int32} (hk : k < 12) : V MX2_isDue (d, 0, 0, n0, κ) 0 0 h 0 [some (.ref a), some (.int (nI k)), some (.int (hour)), some (.int (men))] [] (Rd h (.int (bI (dDue s k hour men)))) := by
  refine V.aload_n dX2_isDue_0 rfl ?_
  refine V.getf okX2 4 fl_X2_18 dX2_isDue_1 (by decide) H.1 rfl ?_
  refine V.iload_n dX2_isDue_4 rfl ?_
  refine V.ialdN dX2_isDue_5 (C2_r4 H) (rfl) (by omega) (by decide) ?_
  refine V.iload_n dX2_isDue_6 rfl ?_
  refine V.icmp_ne 27 dX2_isDue_7 (by decide) (fun c7 => ?_) (fun c7 => ?_)
  · skip
    refine V.iconst (v := 0) dX2_isDue_27 (by decide) ?_
    refine V.zret .boolean dX2_isDue_28 rfl (rfl) ?_
    exact ⟨by simp_all [dDue, litB, bI], rfl⟩
  · skip
    refine V.iload_n dX2_isDue_10 rfl ?_
    refine V.aload_n dX2_isDue_11 rfl ?_
    refine V.getf okX2 2 fl_X2_9 dX2_isDue_12 (by decide) H.1 rfl ?_
    refine V.iload_n dX2_isDue_15 rfl ?_
    refine V.ialdN dX2_isDue_16 (C2_r2 H) (rfl) (by omega) (by decide) ?_
    refine V.ishr dX2_isDue_17 ?_
    refine V.iconst (v := 1) dX2_isDue_18 (by decide) ?_
    refine V.iand dX2_isDue_19 ?_
    refine V.if_eq 27 dX2_isDue_20 (by decide) (fun c20 => ?_) (fun c20 => ?_)
    · skip
      refine V.iconst (v := 0) dX2_isDue_27 (by decide) ?_
      refine V.zret .boolean dX2_isDue_28 rfl (rfl) ?_
      exact ⟨by simp_all [dDue, litB, bI], rfl⟩
    · skip
      refine V.iconst (v := 1) dX2_isDue_23 (by decide) ?_
      refine V.goto 28 dX2_isDue_24 (by decide) ?_
      refine V.zret .boolean dX2_isDue_28 rfl (rfl) ?_
      exact ⟨by simp_all [dDue, litB, bI], rfl⟩
set_option maxRecDepth 100000 in
set_option maxHeartbeats 1000000 in
theorem dAdd_V {d n0 : Nat} {κ : Kd} (hd : 2 ≤ d) {h : Hp} {a : Nat} {s : St} (H : isR C2 h a s) {z : Nat} {man e hour : Int32} (hz : s.1 0 = nI z) (hz2 : z < 12) (hfu : dFull s = false) : V MX2_add (d, 0, 0, n0, κ) 0 0 h 0 [some (.ref a), some (.int (man)), some (.int (e)), some (.int (hour))] [] (fun v h' => v = none ∧ isR C2 h' a (dAdd s z man e hour) ∧ ∀ b : Nat, (b < a ∨ a + 4 ≤ b) → h' b = h b) := by
  have hfr : ∀ b : Nat, (b < a ∨ a + 4 ≤ b) → h b = h b := fun _ _ => rfl
  refine V.aload_n dX2_add_0 rfl ?_
  refine V.cV0 (ci := 2) yoX2_isFull ml_X2_34 im_X2_isFull se_X2_isFull dX2_add_1 rfl H.1 (Nat.le_of_ble_eq_true rfl) (by omega) ⟨Nat.le_refl _, Nat.le_refl _⟩ rfl (Nat.le_of_ble_eq_true rfl) (dFull_V (by omega) H) (V.rdK ?_)
  refine V.if_ne 47 dX2_add_4 (by decide) (fun z => absurd (by rw [hfu]; decide) z) (fun _ => ?_)
  refine V.aload_n dX2_add_7 rfl ?_
  refine V.getf okX2 2 fl_X2_9 dX2_add_8 (by decide) H.1 rfl ?_
  refine V.aload_n dX2_add_11 rfl ?_
  refine V.getf okX2 0 fl_X2_31 dX2_add_12 (by decide) H.1 rfl ?_
  refine V.iload_n dX2_add_15 rfl ?_
  refine V.iastH dX2_add_16 (C2_r2 H) (hz) (by omega) (by decide) (fun h1 eh1 oh1 => ?_)
  have H := isR.setA C2_ok H C2_in2 (by decide) _ _ eh1 oh1
  have hfr : ∀ b : Nat, (b < a ∨ a + 4 ≤ b) → h1 b = h b := fun b hb => (oh1 b (by omega)).trans (hfr b hb)
  refine V.aload_n dX2_add_17 rfl ?_
  refine V.getf okX2 3 fl_X2_15 dX2_add_18 (by decide) H.1 rfl ?_
  refine V.aload_n dX2_add_21 rfl ?_
  refine V.getf okX2 0 fl_X2_31 dX2_add_22 (by decide) H.1 rfl ?_
  refine V.iload_n dX2_add_25 rfl ?_
  refine V.iastH dX2_add_26 (C2_r3 H) (hz) (by omega) (by decide) (fun h2 eh2 oh2 => ?_)
  have H := isR.setA C2_ok H C2_in3 (by decide) _ _ eh2 oh2
  have hfr : ∀ b : Nat, (b < a ∨ a + 4 ≤ b) → h2 b = h b := fun b hb => (oh2 b (by omega)).trans (hfr b hb)
  refine V.aload_n dX2_add_27 rfl ?_
  refine V.getf okX2 4 fl_X2_18 dX2_add_28 (by decide) H.1 rfl ?_
  refine V.aload_n dX2_add_31 rfl ?_
  refine V.getf okX2 0 fl_X2_31 dX2_add_32 (by decide) H.1 rfl ?_
  refine V.iload_n dX2_add_35 rfl ?_
  refine V.iastH dX2_add_36 (C2_r4 H) (hz) (by omega) (by decide) (fun h3 eh3 oh3 => ?_)
  have H := isR.setA C2_ok H C2_in4 (by decide) _ _ eh3 oh3
  have hfr : ∀ b : Nat, (b < a ∨ a + 4 ≤ b) → h3 b = h b := fun b hb => (oh3 b (by omega)).trans (hfr b hb)
  refine V.aload_n dX2_add_37 rfl ?_
  refine V.dup dX2_add_38 rfl ?_
  refine V.getf okX2 0 fl_X2_31 dX2_add_39 (by decide) H.1 rfl ?_
  refine V.iconst (v := 1) dX2_add_42 (by decide) ?_
  refine V.iadd dX2_add_43 ?_
  refine V.putfH okX2 0 fl_X2_31 dX2_add_44 (by decide) rfl H.1 (rfl) (rfl) (Nat.le_of_ble_eq_true rfl) (fun h4 eh4 oh4 => ?_)
  have H := isR.setI C2_ok H 0 _ (fun _ _ => rfl) eh4 oh4
  have hfr : ∀ b : Nat, (b < a ∨ a + 4 ≤ b) → h4 b = h b := fun b hb => (oh4 b (by omega)).trans (hfr b hb)
  refine V.vret dX2_add_47 rfl ?_
  exact ⟨rfl, by unfold dAdd; rw [← nI_1, ← hz]; exact H, hfr⟩
