/-! Facts -/
def cMax (x y : Int32) : Int32 := if x < y then y else x
theorem isub1 (x : Int32) : x + (-1) = x - 1 := (Int32.sub_eq_add_neg x 1).symm
def fZero (s : St) : St := (upd (upd s.1 0 0) 1 (-1), s.2.1, s.2.2.1, s.2.2.2)
def fAdd (s : St) (z : Nat) (hours man inch left : Int32) : St := (upd s.1 0 (nI (z + 1)), uA (uA (uA (uA (uA s.2.1 2 z hours) 3 z man) 4 z inch) 5 z left) 6 z (-1), s.2.2)
def fStrike (s : St) (z : Nat) (fact : Int32) : St := (upd s.1 0 (nI (z + 1)), uA s.2.1 6 z fact, s.2.2)
def fKnow (s : St) (n : Int32) : St := (upd s.1 1 n, s.2.1, s.2.2.1, s.2.2.2)
def fBy (s : St) : Int32 := if s.1 1 = -1 then s.1 0 else s.1 1
def cntF (f : Nat → Int32) : Nat → Int32 → Int32 → Int32
  | 0, _, b => b
  | k + 1, st, b => if litB st (nI k) = true then cntF f k st b else if f k < 0 then cntF f k st (b ||| bitM k) else cntF f k (st ||| ((1 : Int32) <<< (f k &&& 31))) b
def latS (s : St) (cn man : Int32) (i : Nat) (x : Int32) : Int32 := if litB cn (nI i) = true ∧ s.2.1 3 i = man then cMax x (s.2.1 2 i) else x
def latF (s : St) (cn man : Int32) : Nat → Int32
  | 0 => 0
  | i + 1 => latS s cn man i (latF s cn man i)
def soS (s : St) (cn beh : Int32) (p : Nat) (c : St) (i : Nat) : Bool := litB cn (nI i) && decide (s.2.1 3 i = nI p) && decide (s.2.1 2 i = beh) && decide (¬ bI (cIsLeft c p (s.2.1 4 i)) = (if s.2.1 5 i = 1 then 1 else 0))
def soF (s : St) (cn beh : Int32) (p : Nat) (c : St) : Nat → Nat → Bool
  | 0, _ => true
  | k + 1, i => if soS s cn beh p c i = true then false else soF s cn beh p c k (i + 1)
set_option maxRecDepth 100000 in
set_option maxHeartbeats 1000000 in
theorem fZero_V {d n0 : Nat} {κ : Kd} (hd : 1 ≤ d) {h : Hp} {a : Nat} {s : St} (H : isR C3 h a s) : V MX3_forget (d, 0, 0, n0, κ) 0 0 h 0 [some (.ref a)] [] (fun v h' => v = none ∧ isR C3 h' a (fZero s) ∧ ∀ b : Nat, (b < a ∨ a + 6 ≤ b) → h' b = h b) := by
  have hfr : ∀ b : Nat, (b < a ∨ a + 6 ≤ b) → h b = h b := fun _ _ => rfl
  refine V.aload_n dX3_forget_0 rfl ?_
  refine V.iconst (v := 0) dX3_forget_1 (by decide) ?_
  refine V.putfH okX3 0 fl_X3_31 dX3_forget_2 (by decide) rfl H.1 (rfl) (rfl) (Nat.le_of_ble_eq_true rfl) (fun h1 eh1 oh1 => ?_)
  have H := isR.setI C3_ok H 0 _ (fun _ _ => rfl) eh1 oh1
  have hfr : ∀ b : Nat, (b < a ∨ a + 6 ≤ b) → h1 b = h b := fun b hb => (oh1 b (by omega)).trans (hfr b hb)
  refine V.aload_n dX3_forget_5 rfl ?_
  refine V.iconst (v := (-1)) dX3_forget_6 (by decide) ?_
  refine V.putfH okX3 1 fl_X3_9 dX3_forget_7 (by decide) rfl H.1 (rfl) (rfl) (Nat.le_of_ble_eq_true rfl) (fun h2 eh2 oh2 => ?_)
  have H := isR.setI C3_ok H 1 _ (fun _ _ => rfl) eh2 oh2
  have hfr : ∀ b : Nat, (b < a ∨ a + 6 ≤ b) → h2 b = h b := fun b hb => (oh2 b (by omega)).trans (hfr b hb)
  refine V.vret dX3_forget_10 rfl ?_
  exact ⟨rfl, H, hfr⟩
set_option maxRecDepth 100000 in
set_option maxHeartbeats 1000000 in
theorem fAdd_V {d n0 : Nat} {κ : Kd} (hd : 1 ≤ d) {h : Hp} {a : Nat} {s : St} (H : isR C3 h a s) {z : Nat} (hz : s.1 0 = nI z) (hz2 : z < 24) {hours man inch : Int32} {lf : Bool} : V MX3_add (d, 0, 0, n0, κ) 0 0 h 0 [some (.ref a), some (.int (hours)), some (.int (man)), some (.int (inch)), some (.int (bI lf))] [] (fun v h' => v = some (.int (nI z)) ∧ isR C3 h' a (fAdd s z hours man inch (bI lf)) ∧ ∀ b : Nat, (b < a ∨ a + 6 ≤ b) → h' b = h b) := by
  have hfr : ∀ b : Nat, (b < a ∨ a + 6 ≤ b) → h b = h b := fun _ _ => rfl
  refine V.aload_n dX3_add_0 rfl ?_
  refine V.getf okX3 0 fl_X3_31 dX3_add_1 (by decide) H.1 rfl ?_
  refine V.bipush (v := 24) dX3_add_4 (by decide) ?_
  refine V.icmp_lt 11 dX3_add_6 (by decide) (fun _ => ?_) (fun z => absurd (by rw [hz]; exact nI_lt (by omega) (by decide)) z)
  refine V.aload_n dX3_add_11 rfl ?_
  refine V.getf okX3 2 fl_X3_15 dX3_add_12 (by decide) H.1 rfl ?_
  refine V.aload_n dX3_add_15 rfl ?_
  refine V.getf okX3 0 fl_X3_31 dX3_add_16 (by decide) H.1 rfl ?_
  refine V.iload_n dX3_add_19 rfl ?_
  refine V.iastH dX3_add_20 (C3_r2 H) (hz) (by omega) (by decide) (fun h1 eh1 oh1 => ?_)
  have H := isR.setA C3_ok H C3_in2 (by decide) _ _ eh1 oh1
  have hfr : ∀ b : Nat, (b < a ∨ a + 6 ≤ b) → h1 b = h b := fun b hb => (oh1 b (by omega)).trans (hfr b hb)
  refine V.aload_n dX3_add_21 rfl ?_
  refine V.getf okX3 3 fl_X3_19 dX3_add_22 (by decide) H.1 rfl ?_
  refine V.aload_n dX3_add_25 rfl ?_
  refine V.getf okX3 0 fl_X3_31 dX3_add_26 (by decide) H.1 rfl ?_
  refine V.iload_n dX3_add_29 rfl ?_
  refine V.iastH dX3_add_30 (C3_r3 H) (hz) (by omega) (by decide) (fun h2 eh2 oh2 => ?_)
  have H := isR.setA C3_ok H C3_in3 (by decide) _ _ eh2 oh2
  have hfr : ∀ b : Nat, (b < a ∨ a + 6 ≤ b) → h2 b = h b := fun b hb => (oh2 b (by omega)).trans (hfr b hb)
  refine V.aload_n dX3_add_31 rfl ?_
  refine V.getf okX3 4 fl_X3_22 dX3_add_32 (by decide) H.1 rfl ?_
  refine V.aload_n dX3_add_35 rfl ?_
  refine V.getf okX3 0 fl_X3_31 dX3_add_36 (by decide) H.1 rfl ?_
  refine V.iload_n dX3_add_39 rfl ?_
  refine V.iastH dX3_add_40 (C3_r4 H) (hz) (by omega) (by decide) (fun h3 eh3 oh3 => ?_)
  have H := isR.setA C3_ok H C3_in4 (by decide) _ _ eh3 oh3
  have hfr : ∀ b : Nat, (b < a ∨ a + 6 ≤ b) → h3 b = h b := fun b hb => (oh3 b (by omega)).trans (hfr b hb)
  refine V.aload_n dX3_add_41 rfl ?_
  refine V.getf okX3 5 fl_X3_25 dX3_add_42 (by decide) H.1 rfl ?_
  refine V.aload_n dX3_add_45 rfl ?_
  refine V.getf okX3 0 fl_X3_31 dX3_add_46 (by decide) H.1 rfl ?_
  refine V.iload dX3_add_49 rfl ?_
  refine V.if_eq 58 dX3_add_51 (by decide) (fun c51 => ?_) (fun c51 => ?_)
  · skip
    rw [show lf = false from bI_f c51] at *
    refine V.iconst (v := 0) dX3_add_58 (by decide) ?_
    refine V.iastH dX3_add_59 (C3_r5 H) (hz) (by omega) (by decide) (fun h4 eh4 oh4 => ?_)
    have H := isR.setA C3_ok H C3_in5 (by decide) _ _ eh4 oh4
    have hfr : ∀ b : Nat, (b < a ∨ a + 6 ≤ b) → h4 b = h b := fun b hb => (oh4 b (by omega)).trans (hfr b hb)
    refine V.aload_n dX3_add_60 rfl ?_
    refine V.getf okX3 6 fl_X3_28 dX3_add_61 (by decide) H.1 rfl ?_
    refine V.aload_n dX3_add_64 rfl ?_
    refine V.getf okX3 0 fl_X3_31 dX3_add_65 (by decide) H.1 rfl ?_
    refine V.iconst (v := (-1)) dX3_add_68 (by decide) ?_
    refine V.iastH dX3_add_69 (C3_r6 H) (hz) (by omega) (by decide) (fun h5 eh5 oh5 => ?_)
    have H := isR.setA C3_ok H C3_in6 (by decide) _ _ eh5 oh5
    have hfr : ∀ b : Nat, (b < a ∨ a + 6 ≤ b) → h5 b = h b := fun b hb => (oh5 b (by omega)).trans (hfr b hb)
    refine V.aload_n dX3_add_70 rfl ?_
    refine V.dup dX3_add_71 rfl ?_
    refine V.getf okX3 0 fl_X3_31 dX3_add_72 (by decide) H.1 rfl ?_
    refine V.dup_x1 dX3_add_75 rfl rfl ?_
    refine V.iconst (v := 1) dX3_add_76 (by decide) ?_
    refine V.iadd dX3_add_77 ?_
    refine V.putfH okX3 0 fl_X3_31 dX3_add_78 (by decide) rfl H.1 (rfl) (rfl) (Nat.le_of_ble_eq_true rfl) (fun h6 eh6 oh6 => ?_)
    have H := isR.setI C3_ok H 0 _ (fun _ _ => rfl) eh6 oh6
    have hfr : ∀ b : Nat, (b < a ∨ a + 6 ≤ b) → h6 b = h b := fun b hb => (oh6 b (by omega)).trans (hfr b hb)
    refine V.iret dX3_add_81 rfl ?_
    exact ⟨by rw [hz], by unfold fAdd; rw [← nI_1, ← hz]; exact H, hfr⟩
  · skip
    rw [show lf = true from bI_t c51] at *
    refine V.iconst (v := 1) dX3_add_54 (by decide) ?_
    refine V.goto 59 dX3_add_55 (by decide) ?_
    refine V.iastH dX3_add_59 (C3_r5 H) (hz) (by omega) (by decide) (fun h7 eh7 oh7 => ?_)
    have H := isR.setA C3_ok H C3_in5 (by decide) _ _ eh7 oh7
    have hfr : ∀ b : Nat, (b < a ∨ a + 6 ≤ b) → h7 b = h b := fun b hb => (oh7 b (by omega)).trans (hfr b hb)
    refine V.aload_n dX3_add_60 rfl ?_
    refine V.getf okX3 6 fl_X3_28 dX3_add_61 (by decide) H.1 rfl ?_
    refine V.aload_n dX3_add_64 rfl ?_
    refine V.getf okX3 0 fl_X3_31 dX3_add_65 (by decide) H.1 rfl ?_
    refine V.iconst (v := (-1)) dX3_add_68 (by decide) ?_
    refine V.iastH dX3_add_69 (C3_r6 H) (hz) (by omega) (by decide) (fun h8 eh8 oh8 => ?_)
    have H := isR.setA C3_ok H C3_in6 (by decide) _ _ eh8 oh8
    have hfr : ∀ b : Nat, (b < a ∨ a + 6 ≤ b) → h8 b = h b := fun b hb => (oh8 b (by omega)).trans (hfr b hb)
    refine V.aload_n dX3_add_70 rfl ?_
    refine V.dup dX3_add_71 rfl ?_
    refine V.getf okX3 0 fl_X3_31 dX3_add_72 (by decide) H.1 rfl ?_
    refine V.dup_x1 dX3_add_75 rfl rfl ?_
    refine V.iconst (v := 1) dX3_add_76 (by decide) ?_
    refine V.iadd dX3_add_77 ?_
    refine V.putfH okX3 0 fl_X3_31 dX3_add_78 (by decide) rfl H.1 (rfl) (rfl) (Nat.le_of_ble_eq_true rfl) (fun h9 eh9 oh9 => ?_)
    have H := isR.setI C3_ok H 0 _ (fun _ _ => rfl) eh9 oh9
    have hfr : ∀ b : Nat, (b < a ∨ a + 6 ≤ b) → h9 b = h b := fun b hb => (oh9 b (by omega)).trans (hfr b hb)
    refine V.iret dX3_add_81 rfl ?_
    exact ⟨by rw [hz], by unfold fAdd; rw [← nI_1, ← hz]; exact H, hfr⟩
set_option maxRecDepth 100000 in
set_option maxHeartbeats 1000000 in
theorem fFull_V {d n0 : Nat} {κ : Kd} (hd : 1 ≤ d) {h : Hp} {a : Nat} {s : St} (H : isR C3 h a s) {hours man inch : Int32} {lf : Bool} (hz : s.1 0 = nI 24) : V MX3_add (d, 0, 0, n0, κ) 0 0 h 0 [some (.ref a), some (.int (hours)), some (.int (man)), some (.int (inch)), some (.int (bI lf))] [] (Rd h (.int (-1))) := by
  refine V.aload_n dX3_add_0 rfl ?_
  refine V.getf okX3 0 fl_X3_31 dX3_add_1 (by decide) H.1 rfl ?_
  refine V.bipush (v := 24) dX3_add_4 (by decide) ?_
  refine V.icmp_lt 11 dX3_add_6 (by decide) (fun z => absurd z (by rw [hz]; decide)) (fun _ => ?_)
  refine V.iconst (v := (-1)) dX3_add_9 (by decide) ?_
  refine V.iret dX3_add_10 rfl ?_
  exact ⟨rfl, rfl⟩
set_option maxRecDepth 100000 in
set_option maxHeartbeats 1000000 in
theorem fStrike_V {d n0 : Nat} {κ : Kd} (hd : 1 ≤ d) {h : Hp} {a : Nat} {s : St} (H : isR C3 h a s) {z : Nat} (hz : s.1 0 = nI z) (hz2 : z < 24) {x : Int32} (h1 : ¬ x < 0) (h2 : ¬ s.1 0 ≤ x) : V MX3_addStrike (d, 0, 0, n0, κ) 0 0 h 0 [some (.ref a), some (.int (x))] [] (fun v h' => v = some (.int (nI z)) ∧ isR C3 h' a (fStrike s z x) ∧ ∀ b : Nat, (b < a ∨ a + 6 ≤ b) → h' b = h b) := by
  have hfr : ∀ b : Nat, (b < a ∨ a + 6 ≤ b) → h b = h b := fun _ _ => rfl
  refine V.iload_n dX3_addStrike_0 rfl ?_
  refine V.if_lt 21 dX3_addStrike_1 (by decide) (fun z => absurd z (h1)) (fun _ => ?_)
  refine V.iload_n dX3_addStrike_4 rfl ?_
  refine V.aload_n dX3_addStrike_5 rfl ?_
  refine V.getf okX3 0 fl_X3_31 dX3_addStrike_6 (by decide) H.1 rfl ?_
  refine V.icmp_ge 21 dX3_addStrike_9 (by decide) (fun z => absurd z (h2)) (fun _ => ?_)
  refine V.aload_n dX3_addStrike_12 rfl ?_
  refine V.getf okX3 0 fl_X3_31 dX3_addStrike_13 (by decide) H.1 rfl ?_
  refine V.bipush (v := 24) dX3_addStrike_16 (by decide) ?_
  refine V.icmp_lt 23 dX3_addStrike_18 (by decide) (fun _ => ?_) (fun z => absurd (by rw [hz]; exact nI_lt (by omega) (by decide)) z)
  refine V.aload_n dX3_addStrike_23 rfl ?_
  refine V.getf okX3 6 fl_X3_28 dX3_addStrike_24 (by decide) H.1 rfl ?_
  refine V.aload_n dX3_addStrike_27 rfl ?_
  refine V.getf okX3 0 fl_X3_31 dX3_addStrike_28 (by decide) H.1 rfl ?_
  refine V.iload_n dX3_addStrike_31 rfl ?_
  refine V.iastH dX3_addStrike_32 (C3_r6 H) (hz) (by omega) (by decide) (fun h1 eh1 oh1 => ?_)
  have H := isR.setA C3_ok H C3_in6 (by decide) _ _ eh1 oh1
  have hfr : ∀ b : Nat, (b < a ∨ a + 6 ≤ b) → h1 b = h b := fun b hb => (oh1 b (by omega)).trans (hfr b hb)
  refine V.aload_n dX3_addStrike_33 rfl ?_
  refine V.dup dX3_addStrike_34 rfl ?_
  refine V.getf okX3 0 fl_X3_31 dX3_addStrike_35 (by decide) H.1 rfl ?_
  refine V.dup_x1 dX3_addStrike_38 rfl rfl ?_
  refine V.iconst (v := 1) dX3_addStrike_39 (by decide) ?_
  refine V.iadd dX3_addStrike_40 ?_
  refine V.putfH okX3 0 fl_X3_31 dX3_addStrike_41 (by decide) rfl H.1 (rfl) (rfl) (Nat.le_of_ble_eq_true rfl) (fun h2 eh2 oh2 => ?_)
  have H := isR.setI C3_ok H 0 _ (fun _ _ => rfl) eh2 oh2
  have hfr : ∀ b : Nat, (b < a ∨ a + 6 ≤ b) → h2 b = h b := fun b hb => (oh2 b (by omega)).trans (hfr b hb)
  refine V.iret dX3_addStrike_44 rfl ?_
  exact ⟨by rw [hz], by unfold fStrike; rw [← nI_1, ← hz]; exact H, hfr⟩
set_option maxRecDepth 100000 in
set_option maxHeartbeats 1000000 in
theorem fStrikeNo_V {d n0 : Nat} {κ : Kd} (hd : 1 ≤ d) {h : Hp} {a : Nat} {s : St} (H : isR C3 h a s) {x : Int32} (hbad : x < 0 ∨ s.1 0 ≤ x ∨ s.1 0 = nI 24) : V MX3_addStrike (d, 0, 0, n0, κ) 0 0 h 0 [some (.ref a), some (.int (x))] [] (Rd h (.int (-1))) := by
  refine V.iload_n dX3_addStrike_0 rfl ?_
  refine V.if_lt 21 dX3_addStrike_1 (by decide) (fun c1 => ?_) (fun c1 => ?_)
  · skip
    refine V.iconst (v := (-1)) dX3_addStrike_21 (by decide) ?_
    refine V.iret dX3_addStrike_22 rfl ?_
    exact ⟨rfl, rfl⟩
  · skip
    have q1 := c1
    refine V.iload_n dX3_addStrike_4 rfl ?_
    refine V.aload_n dX3_addStrike_5 rfl ?_
    refine V.getf okX3 0 fl_X3_31 dX3_addStrike_6 (by decide) H.1 rfl ?_
    refine V.icmp_ge 21 dX3_addStrike_9 (by decide) (fun c9 => ?_) (fun c9 => ?_)
    · skip
      refine V.iconst (v := (-1)) dX3_addStrike_21 (by decide) ?_
      refine V.iret dX3_addStrike_22 rfl ?_
      exact ⟨rfl, rfl⟩
    · skip
      have q2 := c9
      refine V.aload_n dX3_addStrike_12 rfl ?_
      refine V.getf okX3 0 fl_X3_31 dX3_addStrike_13 (by decide) H.1 rfl ?_
      refine V.bipush (v := 24) dX3_addStrike_16 (by decide) ?_
      refine V.icmp_lt 23 dX3_addStrike_18 (by decide) (fun z => absurd z (by rcases hbad with q | q | q; exact absurd q c1; exact absurd q c9; rw [q]; decide)) (fun _ => ?_)
      refine V.iconst (v := (-1)) dX3_addStrike_21 (by decide) ?_
      refine V.iret dX3_addStrike_22 rfl ?_
      exact ⟨rfl, rfl⟩
set_option maxRecDepth 100000 in
set_option maxHeartbeats 1000000 in
theorem fBy_V {d n0 : Nat} {κ : Kd} (hd : 1 ≤ d) {h : Hp} {a : Nat} {s : St} (H : isR C3 h a s) : V MX3_knownBy (d, 0, 0, n0, κ) 0 0 h 0 [some (.ref a)] [] (Rd h (.int (fBy s))) := by
  refine V.aload_n dX3_knownBy_0 rfl ?_
  refine V.getf okX3 1 fl_X3_9 dX3_knownBy_1 (by decide) H.1 rfl ?_
  refine V.iconst (v := (-1)) dX3_knownBy_4 (by decide) ?_
  refine V.icmp_ne 15 dX3_knownBy_5 (by decide) (fun c5 => ?_) (fun c5 => ?_)
  · skip
    refine V.aload_n dX3_knownBy_15 rfl ?_
    refine V.getf okX3 1 fl_X3_9 dX3_knownBy_16 (by decide) H.1 rfl ?_
    refine V.iret dX3_knownBy_19 rfl ?_
    exact ⟨by simp_all [fBy], rfl⟩
  · skip
    refine V.aload_n dX3_knownBy_8 rfl ?_
    refine V.getf okX3 0 fl_X3_31 dX3_knownBy_9 (by decide) H.1 rfl ?_
    refine V.goto 19 dX3_knownBy_12 (by decide) ?_
    refine V.iret dX3_knownBy_19 rfl ?_
    exact ⟨by simp_all [fBy], rfl⟩
set_option maxRecDepth 100000 in
set_option maxHeartbeats 1000000 in
theorem fKnow_V {d n0 : Nat} {κ : Kd} (hd : 1 ≤ d) {h : Hp} {a : Nat} {s : St} (H : isR C3 h a s) {x : Int32} : V MX3_setKnownBy (d, 0, 0, n0, κ) 0 0 h 0 [some (.ref a), some (.int (x))] [] (fun v h' => v = some (.int (if ¬ x < -1 ∧ x ≤ s.1 0 then 1 else 0)) ∧ isR C3 h' a (if ¬ x < -1 ∧ x ≤ s.1 0 then fKnow s x else s) ∧ ∀ b : Nat, (b < a ∨ a + 6 ≤ b) → h' b = h b) := by
  have hfr : ∀ b : Nat, (b < a ∨ a + 6 ≤ b) → h b = h b := fun _ _ => rfl
  refine V.iload_n dX3_setKnownBy_0 rfl ?_
  refine V.iconst (v := (-1)) dX3_setKnownBy_1 (by decide) ?_
  refine V.icmp_lt 13 dX3_setKnownBy_2 (by decide) (fun c2 => ?_) (fun c2 => ?_)
  · skip
    have hb : ¬ (¬ x < -1 ∧ x ≤ s.1 0) := fun z => z.1 c2
    refine V.iconst (v := 0) dX3_setKnownBy_13 (by decide) ?_
    refine V.zret .boolean dX3_setKnownBy_14 rfl (rfl) ?_
    exact ⟨by rw [if_neg hb], by rw [if_neg hb]; exact H, hfr⟩
  · skip
    refine V.iload_n dX3_setKnownBy_5 rfl ?_
    refine V.aload_n dX3_setKnownBy_6 rfl ?_
    refine V.getf okX3 0 fl_X3_31 dX3_setKnownBy_7 (by decide) H.1 rfl ?_
    refine V.icmp_le 15 dX3_setKnownBy_10 (by decide) (fun c10 => ?_) (fun c10 => ?_)
    · skip
      refine V.aload_n dX3_setKnownBy_15 rfl ?_
      refine V.iload_n dX3_setKnownBy_16 rfl ?_
      refine V.putfH okX3 1 fl_X3_9 dX3_setKnownBy_17 (by decide) rfl H.1 (rfl) (rfl) (Nat.le_of_ble_eq_true rfl) (fun h1 eh1 oh1 => ?_)
      have H := isR.setI C3_ok H 1 _ (fun _ _ => rfl) eh1 oh1
      have hfr : ∀ b : Nat, (b < a ∨ a + 6 ≤ b) → h1 b = h b := fun b hb => (oh1 b (by omega)).trans (hfr b hb)
      refine V.iconst (v := 1) dX3_setKnownBy_20 (by decide) ?_
      refine V.zret .boolean dX3_setKnownBy_21 rfl (rfl) ?_
      exact ⟨by rw [if_pos ⟨c2, c10⟩], by rw [if_pos ⟨c2, c10⟩]; exact H, hfr⟩
    · skip
      have hb : ¬ (¬ x < -1 ∧ x ≤ s.1 0) := fun z => c10 z.2
      refine V.iconst (v := 0) dX3_setKnownBy_13 (by decide) ?_
      refine V.zret .boolean dX3_setKnownBy_14 rfl (rfl) ?_
      exact ⟨by rw [if_neg hb], by rw [if_neg hb]; exact H, hfr⟩
set_option maxRecDepth 100000 in
set_option maxHeartbeats 1000000 in
theorem counting_V {d n0 : Nat} {κ : Kd} (hd : 2 ≤ d) {h : Hp} {a : Nat} {s : St} (H : isR C3 h a s) {kb : Nat} (hkb : fBy s = nI kb) (hkb2 : kb ≤ 24) : V MX3_counting (d, 0, 0, n0, κ) 0 0 h 0 [some (.ref a), none, none, none] [] (Rd h (.int (cntF (s.2.1 6) kb 0 0))) := by
  refine V.iconst (v := 0) dX3_counting_0 (by decide) ?_
  refine V.istore_n dX3_counting_1 (by decide) rfl ?_
  refine V.iconst (v := 0) dX3_counting_2 (by decide) ?_
  refine V.istore_n dX3_counting_3 (by decide) rfl ?_
  refine V.aload_n dX3_counting_4 rfl ?_
  refine V.cV0 (ci := 3) yoX3_knownBy ml_X3_34 im_X3_knownBy se_X3_knownBy dX3_counting_5 rfl H.1 (Nat.le_of_ble_eq_true rfl) (by omega) ⟨Nat.le_refl _, Nat.le_refl _⟩ rfl (Nat.le_of_ble_eq_true rfl) (fBy_V (by omega) H) (V.rdK ?_)
  refine V.iconst (v := 1) dX3_counting_8 (by decide) ?_
  refine V.isub dX3_counting_9 ?_
  refine V.istore_n dX3_counting_10 (by decide) rfl ?_
  suffices hL : ∀ (k : Nat), k ≤ kb → ∀ (st bb : Int32), cntF (s.2.1 6) k st bb = cntF (s.2.1 6) kb 0 0 → V MX3_counting (d, 0, 0, n0, κ) 0 0 h 11 [some (.ref a), some (.int (st)), some (.int (bb)), some (.int ((nI k - 1)))] [] (Rd h (.int (cntF (s.2.1 6) kb 0 0))) from by
    rw [hkb]
    exact hL kb (Nat.le_refl _) 0 0 rfl
  intro k
  induction k with
  | zero =>
    intro hk st bb hv
    refine V.iload_n dX3_counting_11 rfl ?_
    refine V.if_lt 58 dX3_counting_12 (by decide) (fun _ => ?_) (fun z => absurd (by decide) z)
    refine V.iload_n dX3_counting_58 rfl ?_
    refine V.iret dX3_counting_59 rfl ?_
    exact ⟨by rw [← hv]; rfl, rfl⟩
  | succ k ih =>
    intro hk st bb hv
    rw [nI_pred]
    refine V.iload_n dX3_counting_11 rfl ?_
    refine V.if_lt 58 dX3_counting_12 (by decide) (fun z => absurd z (nI_pos (by omega))) (fun _ => ?_)
    refine V.iload_n dX3_counting_15 rfl ?_
    refine V.iload_n dX3_counting_16 rfl ?_
    refine V.ishr dX3_counting_17 ?_
    refine V.iconst (v := 1) dX3_counting_18 (by decide) ?_
    refine V.iand dX3_counting_19 ?_
    refine V.if_ne 52 dX3_counting_20 (by decide) (fun c20 => ?_) (fun c20 => ?_)
    · skip
      have e1 : litB st (nI k) = true := by unfold litB; simp only [decide_eq_true_eq]; exact c20
      refine V.iinc (v := (-1)) dX3_counting_52 rfl (by decide) (by decide) rfl ?_
      refine V.goto 11 dX3_counting_55 (by decide) ?_
      refine V.weak [some (.ref a), some (.int (st)), some (.int (bb)), some (.int ((nI k - 1)))] (by simp [leL, sto1, sto2, k2c, isub1, bitM]) ?_
      exact ih (by omega) _ _ (by rw [← hv, cntF, if_pos e1])
    · skip
      have e1 : ¬ litB st (nI k) = true := by unfold litB; simp only [decide_eq_true_eq]; exact fun z => z c20
      refine V.aload_n dX3_counting_23 rfl ?_
      refine V.getf okX3 6 fl_X3_28 dX3_counting_24 (by decide) H.1 rfl ?_
      refine V.iload_n dX3_counting_27 rfl ?_
      refine V.ialdN dX3_counting_28 (C3_r6 H) (rfl) (by omega) (by decide) ?_
      refine V.if_lt 46 dX3_counting_29 (by decide) (fun c29 => ?_) (fun c29 => ?_)
      · skip
        refine V.iload_n dX3_counting_46 rfl ?_
        refine V.iconst (v := 1) dX3_counting_47 (by decide) ?_
        refine V.iload_n dX3_counting_48 rfl ?_
        refine V.ishl dX3_counting_49 ?_
        refine V.ior dX3_counting_50 ?_
        refine V.istore_n dX3_counting_51 (by decide) rfl ?_
        refine V.iinc (v := (-1)) dX3_counting_52 rfl (by decide) (by decide) rfl ?_
        refine V.goto 11 dX3_counting_55 (by decide) ?_
        refine V.weak [some (.ref a), some (.int (st)), some (.int ((bb ||| bitM k))), some (.int ((nI k - 1)))] (by simp [leL, sto1, sto2, k2c, isub1, bitM]) ?_
        exact ih (by omega) _ _ (by rw [← hv, cntF, if_neg e1, if_pos c29])
      · skip
        refine V.iload_n dX3_counting_32 rfl ?_
        refine V.iconst (v := 1) dX3_counting_33 (by decide) ?_
        refine V.aload_n dX3_counting_34 rfl ?_
        refine V.getf okX3 6 fl_X3_28 dX3_counting_35 (by decide) H.1 rfl ?_
        refine V.iload_n dX3_counting_38 rfl ?_
        refine V.ialdN dX3_counting_39 (C3_r6 H) (rfl) (by omega) (by decide) ?_
        refine V.ishl dX3_counting_40 ?_
        refine V.ior dX3_counting_41 ?_
        refine V.istore_n dX3_counting_42 (by decide) rfl ?_
        refine V.goto 52 dX3_counting_43 (by decide) ?_
        refine V.iinc (v := (-1)) dX3_counting_52 rfl (by decide) (by decide) rfl ?_
        refine V.goto 11 dX3_counting_55 (by decide) ?_
        refine V.weak [some (.ref a), some (.int ((st ||| ((1 : Int32) <<< (s.2.1 6 k &&& 31))))), some (.int (bb)), some (.int ((nI k - 1)))] (by simp [leL, sto1, sto2, k2c, isub1, bitM]) ?_
        exact ih (by omega) _ _ (by rw [← hv, cntF, if_neg e1, if_neg c29])
set_option maxRecDepth 100000 in
set_option maxHeartbeats 1000000 in
theorem latest_V {d n0 : Nat} {κ : Kd} (hd : 2 ≤ d) {h : Hp} {a : Nat} {s : St} (H : isR C3 h a s) {n : Nat} {cn man : Int32} (hp : s.1 0 = nI n) (hn : n ≤ 24) : V MX3_latestHours (d, 0, 0, n0, κ) 0 0 h 0 [some (.ref a), some (.int (cn)), some (.int (man)), none, none] [] (Rd h (.int (latF s cn man n))) := by
  refine V.iconst (v := 0) dX3_latestHours_0 (by decide) ?_
  refine V.istore_n dX3_latestHours_1 (by decide) rfl ?_
  refine V.iconst (v := nI 0) dX3_latestHours_2 (by decide) ?_
  refine V.istore dX3_latestHours_3 (by decide) rfl ?_
  suffices hL : ∀ (k i : Nat), i + k = n → V MX3_latestHours (d, 0, 0, n0, κ) 0 0 h 5 [some (.ref a), some (.int (cn)), some (.int (man)), some (.int (latF s cn man i)), some (.int (nI i))] [] (Rd h (.int (latF s cn man n))) from hL (n) 0 (by omega)
  intro k
  induction k with
  | zero =>
    intro i hik
    have hin : i = n := by omega
    subst hin
    refine V.iload dX3_latestHours_5 rfl ?_
    refine V.aload_n dX3_latestHours_7 rfl ?_
    refine V.getf okX3 0 fl_X3_31 dX3_latestHours_8 (by decide) H.1 rfl ?_
    refine V.icmp_ge 52 dX3_latestHours_11 (by decide) (fun _ => ?_) (fun z => absurd (by rw [hp]; exact nI_le (Nat.le_refl _) (by omega)) z)
    refine V.iload_n dX3_latestHours_52 rfl ?_
    refine V.iret dX3_latestHours_53 rfl ?_
    exact ⟨rfl, rfl⟩
  | succ k ih =>
    intro i hik
    refine V.iload dX3_latestHours_5 rfl ?_
    refine V.aload_n dX3_latestHours_7 rfl ?_
    refine V.getf okX3 0 fl_X3_31 dX3_latestHours_8 (by decide) H.1 rfl ?_
    refine V.icmp_ge 52 dX3_latestHours_11 (by decide) (fun z => absurd z (by rw [hp]; exact nI_ge (by omega) (by omega))) (fun _ => ?_)
    refine V.iload_n dX3_latestHours_14 rfl ?_
    refine V.iload dX3_latestHours_15 rfl ?_
    refine V.ishr dX3_latestHours_17 ?_
    refine V.iconst (v := 1) dX3_latestHours_18 (by decide) ?_
    refine V.iand dX3_latestHours_19 ?_
    refine V.if_eq 46 dX3_latestHours_20 (by decide) (fun c20 => ?_) (fun c20 => ?_)
    · skip
      have hS : latF s cn man (i + 1) = latF s cn man i := by rw [latF]; unfold latS; rw [if_neg (fun z => by have z1 := z.1; unfold litB at z1; simp only [decide_eq_true_eq] at z1; exact z1 c20)]
      refine V.iinc (v := 1) dX3_latestHours_46 rfl (by decide) (by decide) rfl ?_
      refine V.goto 5 dX3_latestHours_49 (by decide) ?_
      refine V.weak [some (.ref a), some (.int (cn)), some (.int (man)), some (.int (latF s cn man (i + 1))), some (.int (nI (i + 1)))] (by rw [hS]; simp [leL, sto1, sto2, k2c, nI_1, cMax]) ?_
      exact ih (i + 1) (by omega)
    · skip
      have e1 : litB cn (nI i) = true := by unfold litB; simp only [decide_eq_true_eq]; exact c20
      refine V.aload_n dX3_latestHours_23 rfl ?_
      refine V.getf okX3 3 fl_X3_19 dX3_latestHours_24 (by decide) H.1 rfl ?_
      refine V.iload dX3_latestHours_27 rfl ?_
      refine V.ialdN dX3_latestHours_29 (C3_r3 H) (rfl) (by omega) (by decide) ?_
      refine V.iload_n dX3_latestHours_30 rfl ?_
      refine V.icmp_ne 46 dX3_latestHours_31 (by decide) (fun c31 => ?_) (fun c31 => ?_)
      · skip
        have hS : latF s cn man (i + 1) = latF s cn man i := by rw [latF]; unfold latS; rw [if_neg (fun z => c31 z.2)]
        refine V.iinc (v := 1) dX3_latestHours_46 rfl (by decide) (by decide) rfl ?_
        refine V.goto 5 dX3_latestHours_49 (by decide) ?_
        refine V.weak [some (.ref a), some (.int (cn)), some (.int (man)), some (.int (latF s cn man (i + 1))), some (.int (nI (i + 1)))] (by rw [hS]; simp [leL, sto1, sto2, k2c, nI_1, cMax]) ?_
        exact ih (i + 1) (by omega)
      · skip
        have hS : latF s cn man (i + 1) = cMax (latF s cn man i) (s.2.1 2 i) := by rw [latF]; unfold latS; rw [if_pos ⟨e1, c31⟩]
        refine V.iload_n dX3_latestHours_34 rfl ?_
        refine V.aload_n dX3_latestHours_35 rfl ?_
        refine V.getf okX3 2 fl_X3_15 dX3_latestHours_36 (by decide) H.1 rfl ?_
        refine V.iload dX3_latestHours_39 rfl ?_
        refine V.ialdN dX3_latestHours_41 (C3_r2 H) (rfl) (by omega) (by decide) ?_
        refine V.mmax ml_X3_38 st_J9_max_7cf53 ini_J9 co_J9_max_7cf53 dX3_latestHours_42 (by omega) (Nat.le_of_ble_eq_true rfl) ⟨Nat.le_refl _, Nat.le_refl _⟩ ?_
        refine V.istore_n dX3_latestHours_45 (by decide) rfl ?_
        refine V.iinc (v := 1) dX3_latestHours_46 rfl (by decide) (by decide) rfl ?_
        refine V.goto 5 dX3_latestHours_49 (by decide) ?_
        refine V.weak [some (.ref a), some (.int (cn)), some (.int (man)), some (.int (latF s cn man (i + 1))), some (.int (nI (i + 1)))] (by rw [hS]; simp [leL, sto1, sto2, k2c, nI_1, cMax]) ?_
        exact ih (i + 1) (by omega)
set_option maxRecDepth 100000 in
set_option maxHeartbeats 1000000 in
theorem areSo_V {d n0 : Nat} {κ : Kd} (hd : 2 ≤ d) {h : Hp} {a b0 p n : Nat} {s c : St} {cn beh : Int32} (H : isR C3 h a s) (HC : isR C0 h b0 c) (hp : s.1 0 = nI n) (hn : n ≤ 24) (hp6 : p < 6) : V MX3_areSo (d, 0, 0, n0, κ) 0 0 h 0 [some (.ref a), some (.int (cn)), some (.int (beh)), some (.int (nI p)), some (.ref (b0)), none] [] (Rd h (.int (bI (soF s cn beh p c n 0)))) := by
  refine V.iconst (v := nI 0) dX3_areSo_0 (by decide) ?_
  refine V.istore dX3_areSo_1 (by decide) rfl ?_
  suffices hL : ∀ (k i : Nat), i + k = n → soF s cn beh p c k i = soF s cn beh p c n 0 → V MX3_areSo (d, 0, 0, n0, κ) 0 0 h 3 [some (.ref a), some (.int (cn)), some (.int (beh)), some (.int (nI p)), some (.ref (b0)), some (.int (nI i))] [] (Rd h (.int (bI (soF s cn beh p c n 0)))) from hL (n) 0 (by omega) rfl
  intro k
  induction k with
  | zero =>
    intro i hik hv
    have hin : i = n := by omega
    subst hin
    refine V.iload dX3_areSo_3 rfl ?_
    refine V.aload_n dX3_areSo_5 rfl ?_
    refine V.getf okX3 0 fl_X3_31 dX3_areSo_6 (by decide) H.1 rfl ?_
    refine V.icmp_ge 83 dX3_areSo_9 (by decide) (fun _ => ?_) (fun z => absurd (by rw [hp]; exact nI_le (Nat.le_refl _) (by omega)) z)
    refine V.iconst (v := 1) dX3_areSo_83 (by decide) ?_
    refine V.zret .boolean dX3_areSo_84 rfl (rfl) ?_
    exact ⟨by rw [← hv]; rfl, rfl⟩
  | succ k ih =>
    intro i hik hv
    refine V.iload dX3_areSo_3 rfl ?_
    refine V.aload_n dX3_areSo_5 rfl ?_
    refine V.getf okX3 0 fl_X3_31 dX3_areSo_6 (by decide) H.1 rfl ?_
    refine V.icmp_ge 83 dX3_areSo_9 (by decide) (fun z => absurd z (by rw [hp]; exact nI_ge (by omega) (by omega))) (fun _ => ?_)
    refine V.iload_n dX3_areSo_12 rfl ?_
    refine V.iload dX3_areSo_13 rfl ?_
    refine V.ishr dX3_areSo_15 ?_
    refine V.iconst (v := 1) dX3_areSo_16 (by decide) ?_
    refine V.iand dX3_areSo_17 ?_
    refine V.if_eq 77 dX3_areSo_18 (by decide) (fun c18 => ?_) (fun c18 => ?_)
    · skip
      have hS : ¬ soS s cn beh p c i = true := by unfold soS litB; simp [c18]
      refine V.iinc (v := 1) dX3_areSo_77 rfl (by decide) (by decide) rfl ?_
      refine V.goto 3 dX3_areSo_80 (by decide) ?_
      refine V.weak [some (.ref a), some (.int (cn)), some (.int (beh)), some (.int (nI p)), some (.ref (b0)), some (.int (nI (i + 1)))] (by simp [leL, sto1, sto2, k2c, nI_1]) ?_
      exact ih (i + 1) (by omega) (by rw [← hv, soF, if_neg hS])
    · skip
      refine V.aload_n dX3_areSo_21 rfl ?_
      refine V.getf okX3 3 fl_X3_19 dX3_areSo_22 (by decide) H.1 rfl ?_
      refine V.iload dX3_areSo_25 rfl ?_
      refine V.ialdN dX3_areSo_27 (C3_r3 H) (rfl) (by omega) (by decide) ?_
      refine V.iload_n dX3_areSo_28 rfl ?_
      refine V.icmp_ne 77 dX3_areSo_29 (by decide) (fun c29 => ?_) (fun c29 => ?_)
      · skip
        have hS : ¬ soS s cn beh p c i = true := by unfold soS; simp [c29]
        refine V.iinc (v := 1) dX3_areSo_77 rfl (by decide) (by decide) rfl ?_
        refine V.goto 3 dX3_areSo_80 (by decide) ?_
        refine V.weak [some (.ref a), some (.int (cn)), some (.int (beh)), some (.int (nI p)), some (.ref (b0)), some (.int (nI (i + 1)))] (by simp [leL, sto1, sto2, k2c, nI_1]) ?_
        exact ih (i + 1) (by omega) (by rw [← hv, soF, if_neg hS])
      · skip
        refine V.aload_n dX3_areSo_32 rfl ?_
        refine V.getf okX3 2 fl_X3_15 dX3_areSo_33 (by decide) H.1 rfl ?_
        refine V.iload dX3_areSo_36 rfl ?_
        refine V.ialdN dX3_areSo_38 (C3_r2 H) (rfl) (by omega) (by decide) ?_
        refine V.iload_n dX3_areSo_39 rfl ?_
        refine V.icmp_ne 77 dX3_areSo_40 (by decide) (fun c40 => ?_) (fun c40 => ?_)
        · skip
          have hS : ¬ soS s cn beh p c i = true := by unfold soS; simp [c40]
          refine V.iinc (v := 1) dX3_areSo_77 rfl (by decide) (by decide) rfl ?_
          refine V.goto 3 dX3_areSo_80 (by decide) ?_
          refine V.weak [some (.ref a), some (.int (cn)), some (.int (beh)), some (.int (nI p)), some (.ref (b0)), some (.int (nI (i + 1)))] (by simp [leL, sto1, sto2, k2c, nI_1]) ?_
          exact ih (i + 1) (by omega) (by rw [← hv, soF, if_neg hS])
        · skip
          refine V.aload dX3_areSo_43 rfl ?_
          refine V.iload_n dX3_areSo_45 rfl ?_
          refine V.aload_n dX3_areSo_46 rfl ?_
          refine V.getf okX3 4 fl_X3_22 dX3_areSo_47 (by decide) H.1 rfl ?_
          refine V.iload dX3_areSo_50 rfl ?_
          refine V.ialdN dX3_areSo_52 (C3_r4 H) (rfl) (by omega) (by decide) ?_
          refine V.cV2 (ci := 0) yoX0_isLeft ml_X3_44 im_X0_isLeft se_X0_isLeft dX3_areSo_53 rfl HC.1 (Nat.le_of_ble_eq_true rfl) (by omega) ⟨Nat.le_refl _, Nat.le_refl _⟩ rfl (Nat.le_of_ble_eq_true rfl) (isLeft_V (by omega) HC hp6) (V.rdK ?_)
          refine V.aload_n dX3_areSo_56 rfl ?_
          refine V.getf okX3 5 fl_X3_25 dX3_areSo_57 (by decide) H.1 rfl ?_
          refine V.iload dX3_areSo_60 rfl ?_
          refine V.ialdN dX3_areSo_62 (C3_r5 H) (rfl) (by omega) (by decide) ?_
          refine V.iconst (v := 1) dX3_areSo_63 (by decide) ?_
          refine V.icmp_ne 71 dX3_areSo_64 (by decide) (fun c64 => ?_) (fun c64 => ?_)
          · skip
            refine V.iconst (v := 0) dX3_areSo_71 (by decide) ?_
            refine V.icmp_eq 77 dX3_areSo_72 (by decide) (fun c72 => ?_) (fun c72 => ?_)
            · skip
              have hS : ¬ soS s cn beh p c i = true := by unfold soS; simp [c72, c64]
              refine V.iinc (v := 1) dX3_areSo_77 rfl (by decide) (by decide) rfl ?_
              refine V.goto 3 dX3_areSo_80 (by decide) ?_
              refine V.weak [some (.ref a), some (.int (cn)), some (.int (beh)), some (.int (nI p)), some (.ref (b0)), some (.int (nI (i + 1)))] (by simp [leL, sto1, sto2, k2c, nI_1]) ?_
              exact ih (i + 1) (by omega) (by rw [← hv, soF, if_neg hS])
            · skip
              have hS : soS s cn beh p c i = true := by unfold soS litB; simp [c18, c29, c40, c64]; simpa using c72
              refine V.iconst (v := 0) dX3_areSo_75 (by decide) ?_
              refine V.zret .boolean dX3_areSo_76 rfl (rfl) ?_
              exact ⟨by rw [← hv, soF, if_pos hS]; rfl, rfl⟩
          · skip
            refine V.iconst (v := 1) dX3_areSo_67 (by decide) ?_
            refine V.goto 72 dX3_areSo_68 (by decide) ?_
            refine V.icmp_eq 77 dX3_areSo_72 (by decide) (fun c72 => ?_) (fun c72 => ?_)
            · skip
              have hS : ¬ soS s cn beh p c i = true := by unfold soS; simp [c72, c64]
              refine V.iinc (v := 1) dX3_areSo_77 rfl (by decide) (by decide) rfl ?_
              refine V.goto 3 dX3_areSo_80 (by decide) ?_
              refine V.weak [some (.ref a), some (.int (cn)), some (.int (beh)), some (.int (nI p)), some (.ref (b0)), some (.int (nI (i + 1)))] (by simp [leL, sto1, sto2, k2c, nI_1]) ?_
              exact ih (i + 1) (by omega) (by rw [← hv, soF, if_neg hS])
            · skip
              have hS : soS s cn beh p c i = true := by unfold soS litB; simp [c18, c29, c40, c64]; simpa using c72
              refine V.iconst (v := 0) dX3_areSo_75 (by decide) ?_
              refine V.zret .boolean dX3_areSo_76 rfl (rfl) ?_
              exact ⟨by rw [← hv, soF, if_pos hS]; rfl, rfl⟩
