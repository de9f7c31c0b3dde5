/-! Laws: small ones; Told -/
def findF (f : Nat → Int32) (x : Int32) : Nat → Nat → Int32
  | 0, _ => -1
  | k + 1, i => if f i = x then nI i else findF f x k (i + 1)
def tJune (s : St) (i : Nat) (x : Int32) : Bool := decide (¬ (s.2.2.1 3 i >>> (x.toInt64 &&& 63)) &&& 1 = 0)
def seesB (lit len : Int32) (i : Nat) : Bool := decide (¬ lit &&& (len ||| bitM i) = 0)
def tWindy (s : St) : Bool := decide (¬ s.1 10 < 50)
def tAdd (s : St) (z : Nat) (x l : Int32) : St := (upd s.1 0 (nI (z + 1)), uA (uA s.2.1 1 z x) 2 z l, s.2.2)
def lTold (s : St) (i : Nat) : Bool := decide (¬ s.2.1 5 i ≤ s.2.1 4 i)
def lPlace (s : St) (z : Nat) (k v : Int32) : St := (upd s.1 1 (nI (z + 1)), uA (uA s.2.1 2 z k) 3 z v, s.2.2)
def lForget (s : St) : St := (upd (upd s.1 0 0) 1 0, uR (uR s.2.1 4 (fun _ => 0)) 5 (fun _ => 0), s.2.2)
def lSet (s : St) (i : Nat) (x : Int32) : St := (s.1, uA (uA s.2.1 4 i x) 5 i (s.1 1), s.2.2)
def tForget (s : St) : St := (upd (upd (upd (upd (upd (upd (upd s.1 0 0) 5 0) 6 0) 10 0) 11 0) 12 0) 13 0, uR s.2.1 4 (fun _ => 0), uR s.2.2.1 3 (fun _ => 0), s.2.2.2)
def dForget (s : St) : St := (upd s.1 0 0, s.2.1, s.2.2.1, s.2.2.2)
set_option maxRecDepth 100000 in
set_option maxHeartbeats 1000000 in
theorem lForget_V {d n0 : Nat} {κ : Kd} (hd : 2 ≤ d) {h : Hp} {a : Nat} {s : St} (H : isR C4 h a s) : V MX4_forget (d, 0, 0, n0, κ) 0 0 h 0 [some (.ref a)] [] (fun v h' => v = none ∧ isR C4 h' a (lForget s) ∧ ∀ b : Nat, (b < a ∨ a + 6 ≤ b) → h' b = h b) := by
  have hfr : ∀ b : Nat, (b < a ∨ a + 6 ≤ b) → h b = h b := fun _ _ => rfl
  refine V.aload_n dX4_forget_0 rfl ?_
  refine V.iconst (v := 0) dX4_forget_1 (by decide) ?_
  refine V.putfH okX4 0 fl_X4_28 dX4_forget_2 (by decide) rfl H.1 (rfl) (rfl) (Nat.le_of_ble_eq_true rfl) (fun h1 eh1 oh1 => ?_)
  have H := isR.setI C4_ok H 0 _ (fun _ _ => rfl) eh1 oh1
  have hfr : ∀ b : Nat, (b < a ∨ a + 6 ≤ b) → h1 b = h b := fun b hb => (oh1 b (by omega)).trans (hfr b hb)
  refine V.aload_n dX4_forget_5 rfl ?_
  refine V.iconst (v := 0) dX4_forget_6 (by decide) ?_
  refine V.putfH okX4 1 fl_X4_32 dX4_forget_7 (by decide) rfl H.1 (rfl) (rfl) (Nat.le_of_ble_eq_true rfl) (fun h2 eh2 oh2 => ?_)
  have H := isR.setI C4_ok H 1 _ (fun _ _ => rfl) eh2 oh2
  have hfr : ∀ b : Nat, (b < a ∨ a + 6 ≤ b) → h2 b = h b := fun b hb => (oh2 b (by omega)).trans (hfr b hb)
  refine V.aload_n dX4_forget_10 rfl ?_
  refine V.getf okX4 4 fl_X4_18 dX4_forget_11 (by decide) H.1 rfl ?_
  refine V.iconst (v := 0) dX4_forget_14 (by decide) ?_
  refine V.cS2 yoJ7_fill_53178 ml_X4_35 st_J7_fill_53178 dX4_forget_15 (Nat.le_of_ble_eq_true rfl) (by omega) ⟨Nat.le_refl _, Nat.le_refl _⟩ rfl (Nat.le_of_ble_eq_true rfl) (fillI_V (by omega) (by decide) (C4_r4 H)) ?_
  rintro _ h3 ⟨rfl, eh3, oh3⟩
  have H := isR.setAR C4_ok H C4_in4 (by decide) _ eh3 oh3
  have hfr : ∀ b : Nat, (b < a ∨ a + 6 ≤ b) → h3 b = h b := fun b hb => (oh3 b (by omega)).trans (hfr b hb)
  refine V.aload_n dX4_forget_18 rfl ?_
  refine V.getf okX4 5 fl_X4_21 dX4_forget_19 (by decide) H.1 rfl ?_
  refine V.iconst (v := 0) dX4_forget_22 (by decide) ?_
  refine V.cS2 yoJ7_fill_53178 ml_X4_35 st_J7_fill_53178 dX4_forget_23 (Nat.le_of_ble_eq_true rfl) (by omega) ⟨Nat.le_refl _, Nat.le_refl _⟩ rfl (Nat.le_of_ble_eq_true rfl) (fillI_V (by omega) (by decide) (C4_r5 H)) ?_
  rintro _ h4 ⟨rfl, eh4, oh4⟩
  have H := isR.setAR C4_ok H C4_in5 (by decide) _ eh4 oh4
  have hfr : ∀ b : Nat, (b < a ∨ a + 6 ≤ b) → h4 b = h b := fun b hb => (oh4 b (by omega)).trans (hfr b hb)
  refine V.vret dX4_forget_26 rfl ?_
  exact ⟨rfl, H, hfr⟩
set_option maxRecDepth 100000 in
set_option maxHeartbeats 1000000 in
theorem lTold_V {d n0 : Nat} {κ : Kd} (hd : 1 ≤ d) {h : Hp} {a : Nat} {s : St} (H : isR C4 h a s) {i : Nat} (hi : i < 3) : V MX4_isTold (d, 0, 0, n0, κ) 0 0 h 0 [some (.ref a), some (.int (nI i))] [] (Rd h (.int (bI (lTold s i)))) := by
  refine V.iload_n dX4_isTold_0 rfl ?_
  refine V.if_lt 28 dX4_isTold_1 (by decide) (fun z => absurd z (nI_pos (by omega))) (fun _ => ?_)
  refine V.iload_n dX4_isTold_4 rfl ?_
  refine V.iconst (v := 3) dX4_isTold_5 (by decide) ?_
  refine V.icmp_ge 28 dX4_isTold_6 (by decide) (fun z => absurd z (show ¬ nI 3 ≤ nI i from nI_ge (by omega) (by decide))) (fun _ => ?_)
  refine V.aload_n dX4_isTold_9 rfl ?_
  refine V.getf okX4 4 fl_X4_18 dX4_isTold_10 (by decide) H.1 rfl ?_
  refine V.iload_n dX4_isTold_13 rfl ?_
  refine V.ialdN dX4_isTold_14 (C4_r4 H) (rfl) (by omega) (by decide) ?_
  refine V.aload_n dX4_isTold_15 rfl ?_
  refine V.getf okX4 5 fl_X4_21 dX4_isTold_16 (by decide) H.1 rfl ?_
  refine V.iload_n dX4_isTold_19 rfl ?_
  refine V.ialdN dX4_isTold_20 (C4_r5 H) (rfl) (by omega) (by decide) ?_
  refine V.icmp_ge 28 dX4_isTold_21 (by decide) (fun c21 => ?_) (fun c21 => ?_)
  · skip
    refine V.iconst (v := 0) dX4_isTold_28 (by decide) ?_
    refine V.zret .boolean dX4_isTold_29 rfl (rfl) ?_
    exact ⟨by simp_all [lTold, bI], rfl⟩
  · skip
    refine V.iconst (v := 1) dX4_isTold_24 (by decide) ?_
    refine V.goto 29 dX4_isTold_25 (by decide) ?_
    refine V.zret .boolean dX4_isTold_29 rfl (rfl) ?_
    exact ⟨by simp_all [lTold, bI], rfl⟩
set_option maxRecDepth 100000 in
set_option maxHeartbeats 1000000 in
theorem lPlace_V {d n0 : Nat} {κ : Kd} (hd : 1 ≤ d) {h : Hp} {a : Nat} {s : St} (H : isR C4 h a s) {z : Nat} {kd nm : Int32} (hz : s.1 1 = nI z) (hz2 : z < 64) : V MX4_place (d, 0, 0, n0, κ) 0 0 h 0 [some (.ref a), some (.int (kd)), some (.int (nm))] [] (fun v h' => v = none ∧ isR C4 h' a (lPlace s z kd nm) ∧ ∀ b : Nat, (b < a ∨ a + 6 ≤ b) → h' b = h b) := by
  have hfr : ∀ b : Nat, (b < a ∨ a + 6 ≤ b) → h b = h b := fun _ _ => rfl
  refine V.aload_n dX4_place_0 rfl ?_
  refine V.getf okX4 1 fl_X4_32 dX4_place_1 (by decide) H.1 rfl ?_
  refine V.bipush (v := 64) dX4_place_4 (by decide) ?_
  refine V.icmp_ge 39 dX4_place_6 (by decide) (fun z => absurd z (by rw [hz]; exact nI_ge (by omega) (by decide))) (fun _ => ?_)
  refine V.aload_n dX4_place_9 rfl ?_
  refine V.getf okX4 2 fl_X4_9 dX4_place_10 (by decide) H.1 rfl ?_
  refine V.aload_n dX4_place_13 rfl ?_
  refine V.getf okX4 1 fl_X4_32 dX4_place_14 (by decide) H.1 rfl ?_
  refine V.iload_n dX4_place_17 rfl ?_
  refine V.iastH dX4_place_18 (C4_r2 H) (hz) (by omega) (by decide) (fun h1 eh1 oh1 => ?_)
  have H := isR.setA C4_ok H C4_in2 (by decide) _ _ eh1 oh1
  have hfr : ∀ b : Nat, (b < a ∨ a + 6 ≤ b) → h1 b = h b := fun b hb => (oh1 b (by omega)).trans (hfr b hb)
  refine V.aload_n dX4_place_19 rfl ?_
  refine V.getf okX4 3 fl_X4_15 dX4_place_20 (by decide) H.1 rfl ?_
  refine V.aload_n dX4_place_23 rfl ?_
  refine V.getf okX4 1 fl_X4_32 dX4_place_24 (by decide) H.1 rfl ?_
  refine V.iload_n dX4_place_27 rfl ?_
  refine V.iastH dX4_place_28 (C4_r3 H) (hz) (by omega) (by decide) (fun h2 eh2 oh2 => ?_)
  have H := isR.setA C4_ok H C4_in3 (by decide) _ _ eh2 oh2
  have hfr : ∀ b : Nat, (b < a ∨ a + 6 ≤ b) → h2 b = h b := fun b hb => (oh2 b (by omega)).trans (hfr b hb)
  refine V.aload_n dX4_place_29 rfl ?_
  refine V.dup dX4_place_30 rfl ?_
  refine V.getf okX4 1 fl_X4_32 dX4_place_31 (by decide) H.1 rfl ?_
  refine V.iconst (v := 1) dX4_place_34 (by decide) ?_
  refine V.iadd dX4_place_35 ?_
  refine V.putfH okX4 1 fl_X4_32 dX4_place_36 (by decide) rfl H.1 (rfl) (rfl) (Nat.le_of_ble_eq_true rfl) (fun h3 eh3 oh3 => ?_)
  have H := isR.setI C4_ok H 1 _ (fun _ _ => rfl) eh3 oh3
  have hfr : ∀ b : Nat, (b < a ∨ a + 6 ≤ b) → h3 b = h b := fun b hb => (oh3 b (by omega)).trans (hfr b hb)
  refine V.vret dX4_place_39 rfl ?_
  exact ⟨rfl, by unfold lPlace; rw [← nI_1, ← hz]; exact H, hfr⟩
set_option maxRecDepth 100000 in
set_option maxHeartbeats 1000000 in
theorem lPlaced_V {d n0 : Nat} {κ : Kd} (hd : 1 ≤ d) {h : Hp} {a : Nat} {s : St} (H : isR C4 h a s) : V MX4_placedSoFar (d, 0, 0, n0, κ) 0 0 h 0 [some (.ref a)] [] (Rd h (.int (s.1 1))) := by
  refine V.aload_n dX4_placedSoFar_0 rfl ?_
  refine V.getf okX4 1 fl_X4_32 dX4_placedSoFar_1 (by decide) H.1 rfl ?_
  refine V.iret dX4_placedSoFar_4 rfl ?_
  exact ⟨rfl, rfl⟩
set_option maxRecDepth 100000 in
set_option maxHeartbeats 1000000 in
theorem lSet_V {d n0 : Nat} {κ : Kd} (hd : 1 ≤ d) {h : Hp} {a : Nat} {s : St} (H : isR C4 h a s) {i : Nat} {x : Int32} (hi : i < 3) : V MX4_setRule (d, 0, 0, n0, κ) 0 0 h 0 [some (.ref a), some (.int (nI i)), some (.int (x))] [] (fun v h' => v = none ∧ isR C4 h' a (lSet s i x) ∧ ∀ b : Nat, (b < a ∨ a + 6 ≤ b) → h' b = h b) := by
  have hfr : ∀ b : Nat, (b < a ∨ a + 6 ≤ b) → h b = h b := fun _ _ => rfl
  refine V.iload_n dX4_setRule_0 rfl ?_
  refine V.if_lt 26 dX4_setRule_1 (by decide) (fun z => absurd z (nI_pos (by omega))) (fun _ => ?_)
  refine V.iload_n dX4_setRule_4 rfl ?_
  refine V.iconst (v := 3) dX4_setRule_5 (by decide) ?_
  refine V.icmp_ge 26 dX4_setRule_6 (by decide) (fun z => absurd z (show ¬ nI 3 ≤ nI i from nI_ge (by omega) (by decide))) (fun _ => ?_)
  refine V.aload_n dX4_setRule_9 rfl ?_
  refine V.getf okX4 4 fl_X4_18 dX4_setRule_10 (by decide) H.1 rfl ?_
  refine V.iload_n dX4_setRule_13 rfl ?_
  refine V.iload_n dX4_setRule_14 rfl ?_
  refine V.iastH dX4_setRule_15 (C4_r4 H) (rfl) (by omega) (by decide) (fun h1 eh1 oh1 => ?_)
  have H := isR.setA C4_ok H C4_in4 (by decide) _ _ eh1 oh1
  have hfr : ∀ b : Nat, (b < a ∨ a + 6 ≤ b) → h1 b = h b := fun b hb => (oh1 b (by omega)).trans (hfr b hb)
  refine V.aload_n dX4_setRule_16 rfl ?_
  refine V.getf okX4 5 fl_X4_21 dX4_setRule_17 (by decide) H.1 rfl ?_
  refine V.iload_n dX4_setRule_20 rfl ?_
  refine V.aload_n dX4_setRule_21 rfl ?_
  refine V.getf okX4 1 fl_X4_32 dX4_setRule_22 (by decide) H.1 rfl ?_
  refine V.iastH dX4_setRule_25 (C4_r5 H) (rfl) (by omega) (by decide) (fun h2 eh2 oh2 => ?_)
  have H := isR.setA C4_ok H C4_in5 (by decide) _ _ eh2 oh2
  have hfr : ∀ b : Nat, (b < a ∨ a + 6 ≤ b) → h2 b = h b := fun b hb => (oh2 b (by omega)).trans (hfr b hb)
  refine V.vret dX4_setRule_26 rfl ?_
  exact ⟨rfl, H, hfr⟩
set_option maxRecDepth 100000 in
set_option maxHeartbeats 1000000 in
theorem tJune_V {d n0 : Nat} {κ : Kd} (hd : 1 ≤ d) {h : Hp} {a : Nat} {s : St} (H : isR C8 h a s) {i : Nat} {x : Int32} (hi : i < 6) : V MX8_isJune (d, 0, 0, n0, κ) 0 0 h 0 [some (.ref a), some (.int (nI i)), some (.int (x))] [] (Rd h (.int (bI (tJune s i x)))) := by
  refine V.aload_n dX8_isJune_0 rfl ?_
  refine V.getf okX8 3 fl_X8_18 dX8_isJune_1 (by decide) H.1 rfl ?_
  refine V.iload_n dX8_isJune_4 rfl ?_
  refine V.laldN dX8_isJune_5 (C8_r3 H) (rfl) (by omega) (by decide) ?_
  refine V.iload_n dX8_isJune_6 rfl ?_
  refine V.lshr dX8_isJune_7 ?_
  refine V.lconst (v := 1) dX8_isJune_8 (by decide) ?_
  refine V.land dX8_isJune_9 ?_
  refine V.lconst (v := 0) dX8_isJune_10 (by decide) ?_
  refine V.lcmp dX8_isJune_11 ?_
  refine V.if_eq 19 dX8_isJune_12 (by decide) (fun c12 => ?_) (fun c12 => ?_)
  · skip
    refine V.iconst (v := 0) dX8_isJune_19 (by decide) ?_
    refine V.zret .boolean dX8_isJune_20 rfl (rfl) ?_
    exact ⟨by simp_all [tJune, bI, lg_cmp_eq], rfl⟩
  · skip
    refine V.iconst (v := 1) dX8_isJune_15 (by decide) ?_
    refine V.goto 20 dX8_isJune_16 (by decide) ?_
    refine V.zret .boolean dX8_isJune_20 rfl (rfl) ?_
    exact ⟨by simp_all [tJune, bI, lg_cmp_eq], rfl⟩
set_option maxRecDepth 100000 in
set_option maxHeartbeats 1000000 in
theorem tSees_V {d n0 : Nat} {κ : Kd} (hd : 1 ≤ d) {h : Hp} {a : Nat} {s : St} (H : isR C8 h a s) {i : Nat} {x : Int32} (hi : i < 6) : V MX8_isSeeing (d, 0, 0, n0, κ) 0 0 h 0 [some (.ref a), some (.int (x)), some (.int (nI i))] [] (Rd h (.int (bI (seesB x (s.2.1 4 i) i)))) := by
  refine V.iload_n dX8_isSeeing_0 rfl ?_
  refine V.aload_n dX8_isSeeing_1 rfl ?_
  refine V.getf okX8 4 fl_X8_22 dX8_isSeeing_2 (by decide) H.1 rfl ?_
  refine V.iload_n dX8_isSeeing_5 rfl ?_
  refine V.ialdN dX8_isSeeing_6 (C8_r4 H) (rfl) (by omega) (by decide) ?_
  refine V.iconst (v := 1) dX8_isSeeing_7 (by decide) ?_
  refine V.iload_n dX8_isSeeing_8 rfl ?_
  refine V.ishl dX8_isSeeing_9 ?_
  refine V.ior dX8_isSeeing_10 ?_
  refine V.iand dX8_isSeeing_11 ?_
  refine V.if_eq 19 dX8_isSeeing_12 (by decide) (fun c12 => ?_) (fun c12 => ?_)
  · skip
    refine V.iconst (v := 0) dX8_isSeeing_19 (by decide) ?_
    refine V.zret .boolean dX8_isSeeing_20 rfl (rfl) ?_
    exact ⟨by simp_all [seesB, bitM, bI], rfl⟩
  · skip
    refine V.iconst (v := 1) dX8_isSeeing_15 (by decide) ?_
    refine V.goto 20 dX8_isSeeing_16 (by decide) ?_
    refine V.zret .boolean dX8_isSeeing_20 rfl (rfl) ?_
    exact ⟨by simp_all [seesB, bitM, bI], rfl⟩
set_option maxRecDepth 100000 in
set_option maxHeartbeats 1000000 in
theorem tWindy_V {d n0 : Nat} {κ : Kd} (hd : 1 ≤ d) {h : Hp} {a : Nat} {s : St} (H : isR C8 h a s) : V MX8_isWindyAsItGoes (d, 0, 0, n0, κ) 0 0 h 0 [some (.ref a)] [] (Rd h (.int (bI (tWindy s)))) := by
  refine V.aload_n dX8_isWindyAsItGoes_0 rfl ?_
  refine V.getf okX8 10 fl_X8_69 dX8_isWindyAsItGoes_1 (by decide) H.1 rfl ?_
  refine V.bipush (v := 50) dX8_isWindyAsItGoes_4 (by decide) ?_
  refine V.icmp_lt 13 dX8_isWindyAsItGoes_6 (by decide) (fun c6 => ?_) (fun c6 => ?_)
  · skip
    refine V.iconst (v := 0) dX8_isWindyAsItGoes_13 (by decide) ?_
    refine V.zret .boolean dX8_isWindyAsItGoes_14 rfl (rfl) ?_
    exact ⟨by simp_all [tWindy, bI], rfl⟩
  · skip
    refine V.iconst (v := 1) dX8_isWindyAsItGoes_9 (by decide) ?_
    refine V.goto 14 dX8_isWindyAsItGoes_10 (by decide) ?_
    refine V.zret .boolean dX8_isWindyAsItGoes_14 rfl (rfl) ?_
    exact ⟨by simp_all [tWindy, bI], rfl⟩
set_option maxRecDepth 100000 in
set_option maxHeartbeats 1000000 in
theorem tAdd_V {d n0 : Nat} {κ : Kd} (hd : 1 ≤ d) {h : Hp} {a : Nat} {s : St} (H : isR C8 h a s) {z : Nat} {x l : Int32} (hz : s.1 0 = nI z) (hz2 : z < 6) : V MX8_addPerson (d, 0, 0, n0, κ) 0 0 h 0 [some (.ref a), some (.int (x)), some (.int (l))] [] (fun v h' => v = none ∧ isR C8 h' a (tAdd s z x l) ∧ ∀ b : Nat, (b < a ∨ a + 5 ≤ b) → h' b = h b) := by
  have hfr : ∀ b : Nat, (b < a ∨ a + 5 ≤ b) → h b = h b := fun _ _ => rfl
  refine V.aload_n dX8_addPerson_0 rfl ?_
  refine V.getf okX8 0 fl_X8_44 dX8_addPerson_1 (by decide) H.1 rfl ?_
  refine V.bipush (v := 6) dX8_addPerson_4 (by decide) ?_
  refine V.icmp_ge 39 dX8_addPerson_6 (by decide) (fun z => absurd z (by rw [hz]; exact nI_ge (by omega) (by decide))) (fun _ => ?_)
  refine V.aload_n dX8_addPerson_9 rfl ?_
  refine V.getf okX8 1 fl_X8_9 dX8_addPerson_10 (by decide) H.1 rfl ?_
  refine V.aload_n dX8_addPerson_13 rfl ?_
  refine V.getf okX8 0 fl_X8_44 dX8_addPerson_14 (by decide) H.1 rfl ?_
  refine V.iload_n dX8_addPerson_17 rfl ?_
  refine V.iastH dX8_addPerson_18 (C8_r1 H) (hz) (by omega) (by decide) (fun h1 eh1 oh1 => ?_)
  have H := isR.setA C8_ok H C8_in1 (by decide) _ _ eh1 oh1
  have hfr : ∀ b : Nat, (b < a ∨ a + 5 ≤ b) → h1 b = h b := fun b hb => (oh1 b (by omega)).trans (hfr b hb)
  refine V.aload_n dX8_addPerson_19 rfl ?_
  refine V.getf okX8 2 fl_X8_15 dX8_addPerson_20 (by decide) H.1 rfl ?_
  refine V.aload_n dX8_addPerson_23 rfl ?_
  refine V.getf okX8 0 fl_X8_44 dX8_addPerson_24 (by decide) H.1 rfl ?_
  refine V.iload_n dX8_addPerson_27 rfl ?_
  refine V.iastH dX8_addPerson_28 (C8_r2 H) (hz) (by omega) (by decide) (fun h2 eh2 oh2 => ?_)
  have H := isR.setA C8_ok H C8_in2 (by decide) _ _ eh2 oh2
  have hfr : ∀ b : Nat, (b < a ∨ a + 5 ≤ b) → h2 b = h b := fun b hb => (oh2 b (by omega)).trans (hfr b hb)
  refine V.aload_n dX8_addPerson_29 rfl ?_
  refine V.dup dX8_addPerson_30 rfl ?_
  refine V.getf okX8 0 fl_X8_44 dX8_addPerson_31 (by decide) H.1 rfl ?_
  refine V.iconst (v := 1) dX8_addPerson_34 (by decide) ?_
  refine V.iadd dX8_addPerson_35 ?_
  refine V.putfH okX8 0 fl_X8_44 dX8_addPerson_36 (by decide) rfl H.1 (rfl) (rfl) (Nat.le_of_ble_eq_true rfl) (fun h3 eh3 oh3 => ?_)
  have H := isR.setI C8_ok H 0 _ (fun _ _ => rfl) eh3 oh3
  have hfr : ∀ b : Nat, (b < a ∨ a + 5 ≤ b) → h3 b = h b := fun b hb => (oh3 b (by omega)).trans (hfr b hb)
  refine V.vret dX8_addPerson_39 rfl ?_
  exact ⟨rfl, by unfold tAdd; rw [← nI_1, ← hz]; exact H, hfr⟩
set_option maxRecDepth 100000 in
set_option maxHeartbeats 1000000 in
theorem tFind_V {d n0 : Nat} {κ : Kd} (hd : 1 ≤ d) {h : Hp} {a : Nat} {s : St} (H : isR C8 h a s) {n : Nat} {x : Int32} (hp : s.1 0 = nI n) (hn : n ≤ 6) : V MX8_find (d, 0, 0, n0, κ) 0 0 h 0 [some (.ref a), some (.int (x)), none] [] (Rd h (.int (findF (s.2.1 1) x n 0))) := by
  refine V.iconst (v := nI 0) dX8_find_0 (by decide) ?_
  refine V.istore_n dX8_find_1 (by decide) rfl ?_
  suffices hL : ∀ (k i : Nat), i + k = n → findF (s.2.1 1) x k i = findF (s.2.1 1) x n 0 → V MX8_find (d, 0, 0, n0, κ) 0 0 h 2 [some (.ref a), some (.int (x)), some (.int (nI i))] [] (Rd h (.int (findF (s.2.1 1) x n 0))) from hL (n) 0 (by omega) rfl
  intro k
  induction k with
  | zero =>
    intro i hik hv
    have hin : i = n := by omega
    subst hin
    refine V.iload_n dX8_find_2 rfl ?_
    refine V.aload_n dX8_find_3 rfl ?_
    refine V.getf okX8 0 fl_X8_44 dX8_find_4 (by decide) H.1 rfl ?_
    refine V.icmp_ge 28 dX8_find_7 (by decide) (fun _ => ?_) (fun z => absurd (by rw [hp]; exact nI_le (Nat.le_refl _) (by omega)) z)
    refine V.iconst (v := (-1)) dX8_find_28 (by decide) ?_
    refine V.iret dX8_find_29 rfl ?_
    exact ⟨by rw [← hv]; simp_all [findF], rfl⟩
  | succ k ih =>
    intro i hik hv
    refine V.iload_n dX8_find_2 rfl ?_
    refine V.aload_n dX8_find_3 rfl ?_
    refine V.getf okX8 0 fl_X8_44 dX8_find_4 (by decide) H.1 rfl ?_
    refine V.icmp_ge 28 dX8_find_7 (by decide) (fun z => absurd z (by rw [hp]; exact nI_ge (by omega) (by omega))) (fun _ => ?_)
    refine V.aload_n dX8_find_10 rfl ?_
    refine V.getf okX8 1 fl_X8_9 dX8_find_11 (by decide) H.1 rfl ?_
    refine V.iload_n dX8_find_14 rfl ?_
    refine V.ialdN dX8_find_15 (C8_r1 H) (rfl) (by omega) (by decide) ?_
    refine V.iload_n dX8_find_16 rfl ?_
    refine V.icmp_ne 22 dX8_find_17 (by decide) (fun c17 => ?_) (fun c17 => ?_)
    · skip
      refine V.iinc (v := 1) dX8_find_22 rfl (by decide) (by decide) rfl ?_
      refine V.goto 2 dX8_find_25 (by decide) ?_
      refine V.weak [some (.ref a), some (.int (x)), some (.int (nI (i + 1)))] (by simp [leL, sto1, sto2, k2c, nI_1]) ?_
      exact ih (i + 1) (by omega) (by rw [← hv]; simp_all [findF])
    · skip
      refine V.iload_n dX8_find_20 rfl ?_
      refine V.iret dX8_find_21 rfl ?_
      exact ⟨by rw [← hv]; simp_all [findF], rfl⟩
set_option maxRecDepth 100000 in
set_option maxHeartbeats 1000000 in
theorem tForget_V {d n0 : Nat} {κ : Kd} (hd : 3 ≤ d) {h : Hp} {a : Nat} {s : St} (H : isR C8 h a s) {s1 s2 s3 : St} (H1 : isR C2 h (a + 5) s1) (H2 : isR C2 h (a + 9) s2) (H3 : isR C4 h (a + 13) s3) : V MX8_forget (d, 0, 0, n0, κ) 0 0 h 0 [some (.ref a)] [] (fun v h' => v = none ∧ isR C8 h' a (tForget s) ∧ isR C2 h' (a + 5) (dForget s1) ∧ isR C2 h' (a + 9) (dForget s2) ∧ isR C4 h' (a + 13) (lForget s3) ∧ ∀ b : Nat, (b < a ∨ a + 19 ≤ b) → h' b = h b) := by
  have hfr : ∀ b : Nat, (b < a ∨ a + 19 ≤ b) → h b = h b := fun _ _ => rfl
  refine V.aload_n dX8_forget_0 rfl ?_
  refine V.iconst (v := 0) dX8_forget_1 (by decide) ?_
  refine V.putfH okX8 0 fl_X8_44 dX8_forget_2 (by decide) rfl H.1 (rfl) (rfl) (Nat.le_of_ble_eq_true rfl) (fun h1 eh1 oh1 => ?_)
  have H := isR.setI C8_ok H 0 _ (fun _ _ => rfl) eh1 oh1
  have H1 := H1.kept C2_ok (fun b hb1 hb2 => oh1 b (by have hb3 : b < _ := hb2; simp only [C2] at hb3; omega))
  have H2 := H2.kept C2_ok (fun b hb1 hb2 => oh1 b (by have hb3 : b < _ := hb2; simp only [C2] at hb3; omega))
  have H3 := H3.kept C4_ok (fun b hb1 hb2 => oh1 b (by have hb3 : b < _ := hb2; simp only [C4] at hb3; omega))
  have hfr : ∀ b : Nat, (b < a ∨ a + 19 ≤ b) → h1 b = h b := fun b hb => (oh1 b (by omega)).trans (hfr b hb)
  refine V.aload_n dX8_forget_5 rfl ?_
  refine V.getf okX8 3 fl_X8_18 dX8_forget_6 (by decide) H.1 rfl ?_
  refine V.lconst (v := 0) dX8_forget_9 (by decide) ?_
  refine V.cS2 yoJ7_fill_d0a16 ml_X8_48 st_J7_fill_d0a16 dX8_forget_10 (Nat.le_of_ble_eq_true rfl) (by omega) ⟨Nat.le_refl _, Nat.le_refl _⟩ rfl (Nat.le_of_ble_eq_true rfl) (fillJ_V (by omega) (by decide) (C8_r3 H)) ?_
  rintro _ h2 ⟨rfl, eh2, oh2⟩
  have H := isR.setJR C8_ok H C8_in3 _ eh2 oh2
  have H1 := H1.kept C2_ok (fun b hb1 hb2 => oh2 b (by have hb3 : b < _ := hb2; simp only [C2] at hb3; omega))
  have H2 := H2.kept C2_ok (fun b hb1 hb2 => oh2 b (by have hb3 : b < _ := hb2; simp only [C2] at hb3; omega))
  have H3 := H3.kept C4_ok (fun b hb1 hb2 => oh2 b (by have hb3 : b < _ := hb2; simp only [C4] at hb3; omega))
  have hfr : ∀ b : Nat, (b < a ∨ a + 19 ≤ b) → h2 b = h b := fun b hb => (oh2 b (by omega)).trans (hfr b hb)
  refine V.aload_n dX8_forget_13 rfl ?_
  refine V.getf okX8 4 fl_X8_22 dX8_forget_14 (by decide) H.1 rfl ?_
  refine V.iconst (v := 0) dX8_forget_17 (by decide) ?_
  refine V.cS2 yoJ7_fill_53178 ml_X8_54 st_J7_fill_53178 dX8_forget_18 (Nat.le_of_ble_eq_true rfl) (by omega) ⟨Nat.le_refl _, Nat.le_refl _⟩ rfl (Nat.le_of_ble_eq_true rfl) (fillI_V (by omega) (by decide) (C8_r4 H)) ?_
  rintro _ h3 ⟨rfl, eh3, oh3⟩
  have H := isR.setAR C8_ok H C8_in4 (by decide) _ eh3 oh3
  have H1 := H1.kept C2_ok (fun b hb1 hb2 => oh3 b (by have hb3 : b < _ := hb2; simp only [C2] at hb3; omega))
  have H2 := H2.kept C2_ok (fun b hb1 hb2 => oh3 b (by have hb3 : b < _ := hb2; simp only [C2] at hb3; omega))
  have H3 := H3.kept C4_ok (fun b hb1 hb2 => oh3 b (by have hb3 : b < _ := hb2; simp only [C4] at hb3; omega))
  have hfr : ∀ b : Nat, (b < a ∨ a + 19 ≤ b) → h3 b = h b := fun b hb => (oh3 b (by omega)).trans (hfr b hb)
  refine V.aload_n dX8_forget_21 rfl ?_
  refine V.iconst (v := 0) dX8_forget_22 (by decide) ?_
  refine V.putfH okX8 5 fl_X8_57 dX8_forget_23 (by decide) rfl H.1 (rfl) (rfl) (Nat.le_of_ble_eq_true rfl) (fun h4 eh4 oh4 => ?_)
  have H := isR.setI C8_ok H 5 _ (fun _ _ => rfl) eh4 oh4
  have H1 := H1.kept C2_ok (fun b hb1 hb2 => oh4 b (by have hb3 : b < _ := hb2; simp only [C2] at hb3; omega))
  have H2 := H2.kept C2_ok (fun b hb1 hb2 => oh4 b (by have hb3 : b < _ := hb2; simp only [C2] at hb3; omega))
  have H3 := H3.kept C4_ok (fun b hb1 hb2 => oh4 b (by have hb3 : b < _ := hb2; simp only [C4] at hb3; omega))
  have hfr : ∀ b : Nat, (b < a ∨ a + 19 ≤ b) → h4 b = h b := fun b hb => (oh4 b (by omega)).trans (hfr b hb)
  refine V.aload_n dX8_forget_26 rfl ?_
  refine V.iconst (v := 0) dX8_forget_27 (by decide) ?_
  refine V.putfH okX8 6 fl_X8_60 dX8_forget_28 (by decide) rfl H.1 (rfl) (rfl) (Nat.le_of_ble_eq_true rfl) (fun h5 eh5 oh5 => ?_)
  have H := isR.setI C8_ok H 6 _ (fun _ _ => rfl) eh5 oh5
  have H1 := H1.kept C2_ok (fun b hb1 hb2 => oh5 b (by have hb3 : b < _ := hb2; simp only [C2] at hb3; omega))
  have H2 := H2.kept C2_ok (fun b hb1 hb2 => oh5 b (by have hb3 : b < _ := hb2; simp only [C2] at hb3; omega))
  have H3 := H3.kept C4_ok (fun b hb1 hb2 => oh5 b (by have hb3 : b < _ := hb2; simp only [C4] at hb3; omega))
  have hfr : ∀ b : Nat, (b < a ∨ a + 19 ≤ b) → h5 b = h b := fun b hb => (oh5 b (by omega)).trans (hfr b hb)
  refine V.aload_n dX8_forget_31 rfl ?_
  refine V.getf okX8 7 fl_X8_30 dX8_forget_32 (by decide) H.1 rfl ?_
  refine V.iconst (v := 0) dX8_forget_35 (by decide) ?_
  refine V.putfH okX2 0 fl_X8_63 dX8_forget_36 (by decide) rfl H1.1 (rfl) (rfl) (Nat.le_of_ble_eq_true rfl) (fun h6 eh6 oh6 => ?_)
  have H1 := isR.setI C2_ok H1 0 _ (fun _ _ => rfl) eh6 oh6
  have H := H.kept C8_ok (fun b hb1 hb2 => oh6 b (by have hb3 : b < _ := hb2; simp only [C8] at hb3; omega))
  have H2 := H2.kept C2_ok (fun b hb1 hb2 => oh6 b (by have hb3 : b < _ := hb2; simp only [C2] at hb3; omega))
  have H3 := H3.kept C4_ok (fun b hb1 hb2 => oh6 b (by have hb3 : b < _ := hb2; simp only [C4] at hb3; omega))
  have hfr : ∀ b : Nat, (b < a ∨ a + 19 ≤ b) → h6 b = h b := fun b hb => (oh6 b (by omega)).trans (hfr b hb)
  refine V.aload_n dX8_forget_39 rfl ?_
  refine V.getf okX8 8 fl_X8_34 dX8_forget_40 (by decide) H.1 rfl ?_
  refine V.iconst (v := 0) dX8_forget_43 (by decide) ?_
  refine V.putfH okX2 0 fl_X8_63 dX8_forget_44 (by decide) rfl H2.1 (rfl) (rfl) (Nat.le_of_ble_eq_true rfl) (fun h7 eh7 oh7 => ?_)
  have H2 := isR.setI C2_ok H2 0 _ (fun _ _ => rfl) eh7 oh7
  have H := H.kept C8_ok (fun b hb1 hb2 => oh7 b (by have hb3 : b < _ := hb2; simp only [C8] at hb3; omega))
  have H1 := H1.kept C2_ok (fun b hb1 hb2 => oh7 b (by have hb3 : b < _ := hb2; simp only [C2] at hb3; omega))
  have H3 := H3.kept C4_ok (fun b hb1 hb2 => oh7 b (by have hb3 : b < _ := hb2; simp only [C4] at hb3; omega))
  have hfr : ∀ b : Nat, (b < a ∨ a + 19 ≤ b) → h7 b = h b := fun b hb => (oh7 b (by omega)).trans (hfr b hb)
  refine V.aload_n dX8_forget_47 rfl ?_
  refine V.getf okX8 9 fl_X8_40 dX8_forget_48 (by decide) H.1 rfl ?_
  refine V.cV0 (ci := 4) yoX4_forget ml_X8_66 im_X4_forget se_X4_forget dX8_forget_51 rfl H3.1 (Nat.le_of_ble_eq_true rfl) (by omega) ⟨Nat.le_refl _, Nat.le_refl _⟩ rfl (Nat.le_of_ble_eq_true rfl) (lForget_V (by omega) H3) ?_
  rintro _ h8 ⟨rfl, H3, oh8⟩
  have H := H.kept C8_ok (fun b hb1 hb2 => oh8 b (by have hb3 : b < _ := hb2; simp only [C8] at hb3; omega))
  have H1 := H1.kept C2_ok (fun b hb1 hb2 => oh8 b (by have hb3 : b < _ := hb2; simp only [C2] at hb3; omega))
  have H2 := H2.kept C2_ok (fun b hb1 hb2 => oh8 b (by have hb3 : b < _ := hb2; simp only [C2] at hb3; omega))
  have hfr : ∀ b : Nat, (b < a ∨ a + 19 ≤ b) → h8 b = h b := fun b hb => (oh8 b (by omega)).trans (hfr b hb)
  refine V.aload_n dX8_forget_54 rfl ?_
  refine V.iconst (v := 0) dX8_forget_55 (by decide) ?_
  refine V.putfH okX8 10 fl_X8_69 dX8_forget_56 (by decide) rfl H.1 (rfl) (rfl) (Nat.le_of_ble_eq_true rfl) (fun h9 eh9 oh9 => ?_)
  have H := isR.setI C8_ok H 10 _ (fun _ _ => rfl) eh9 oh9
  have H1 := H1.kept C2_ok (fun b hb1 hb2 => oh9 b (by have hb3 : b < _ := hb2; simp only [C2] at hb3; omega))
  have H2 := H2.kept C2_ok (fun b hb1 hb2 => oh9 b (by have hb3 : b < _ := hb2; simp only [C2] at hb3; omega))
  have H3 := H3.kept C4_ok (fun b hb1 hb2 => oh9 b (by have hb3 : b < _ := hb2; simp only [C4] at hb3; omega))
  have hfr : ∀ b : Nat, (b < a ∨ a + 19 ≤ b) → h9 b = h b := fun b hb => (oh9 b (by omega)).trans (hfr b hb)
  refine V.aload_n dX8_forget_59 rfl ?_
  refine V.iconst (v := 0) dX8_forget_60 (by decide) ?_
  refine V.putfH okX8 11 fl_X8_72 dX8_forget_61 (by decide) rfl H.1 (rfl) (rfl) (Nat.le_of_ble_eq_true rfl) (fun h10 eh10 oh10 => ?_)
  have H := isR.setI C8_ok H 11 _ (fun _ _ => rfl) eh10 oh10
  have H1 := H1.kept C2_ok (fun b hb1 hb2 => oh10 b (by have hb3 : b < _ := hb2; simp only [C2] at hb3; omega))
  have H2 := H2.kept C2_ok (fun b hb1 hb2 => oh10 b (by have hb3 : b < _ := hb2; simp only [C2] at hb3; omega))
  have H3 := H3.kept C4_ok (fun b hb1 hb2 => oh10 b (by have hb3 : b < _ := hb2; simp only [C4] at hb3; omega))
  have hfr : ∀ b : Nat, (b < a ∨ a + 19 ≤ b) → h10 b = h b := fun b hb => (oh10 b (by omega)).trans (hfr b hb)
  refine V.aload_n dX8_forget_64 rfl ?_
  refine V.iconst (v := 0) dX8_forget_65 (by decide) ?_
  refine V.putfH okX8 12 fl_X8_75 dX8_forget_66 (by decide) rfl H.1 (rfl) (rfl) (Nat.le_of_ble_eq_true rfl) (fun h11 eh11 oh11 => ?_)
  have H := isR.setI C8_ok H 12 _ (fun _ _ => rfl) eh11 oh11
  have H1 := H1.kept C2_ok (fun b hb1 hb2 => oh11 b (by have hb3 : b < _ := hb2; simp only [C2] at hb3; omega))
  have H2 := H2.kept C2_ok (fun b hb1 hb2 => oh11 b (by have hb3 : b < _ := hb2; simp only [C2] at hb3; omega))
  have H3 := H3.kept C4_ok (fun b hb1 hb2 => oh11 b (by have hb3 : b < _ := hb2; simp only [C4] at hb3; omega))
  have hfr : ∀ b : Nat, (b < a ∨ a + 19 ≤ b) → h11 b = h b := fun b hb => (oh11 b (by omega)).trans (hfr b hb)
  refine V.aload_n dX8_forget_69 rfl ?_
  refine V.iconst (v := 0) dX8_forget_70 (by decide) ?_
  refine V.putfH okX8 13 fl_X8_79 dX8_forget_71 (by decide) rfl H.1 (rfl) (rfl) (Nat.le_of_ble_eq_true rfl) (fun h12 eh12 oh12 => ?_)
  have H := isR.setI C8_ok H 13 _ (fun _ _ => rfl) eh12 oh12
  have H1 := H1.kept C2_ok (fun b hb1 hb2 => oh12 b (by have hb3 : b < _ := hb2; simp only [C2] at hb3; omega))
  have H2 := H2.kept C2_ok (fun b hb1 hb2 => oh12 b (by have hb3 : b < _ := hb2; simp only [C2] at hb3; omega))
  have H3 := H3.kept C4_ok (fun b hb1 hb2 => oh12 b (by have hb3 : b < _ := hb2; simp only [C4] at hb3; omega))
  have hfr : ∀ b : Nat, (b < a ∨ a + 19 ≤ b) → h12 b = h b := fun b hb => (oh12 b (by omega)).trans (hfr b hb)
  refine V.vret dX8_forget_74 rfl ?_
  exact ⟨rfl, H, H1, H2, H3, hfr⟩
