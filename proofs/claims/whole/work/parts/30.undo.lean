/-! Undoing -/
def shF (f : Nat → Int32) : Nat → Int32 := fun j => if j < 19 then f (j + 1) else f j
def uShift (s : St) : St := (upd s.1 0 (nI 19), uR (uR (uR (uR s.2.1 1 (shF (s.2.1 1))) 2 (shF (s.2.1 2))) 3 (shF (s.2.1 3))) 4 (shF (s.2.1 4)), s.2.2)
def uPush (s : St) (z i : Nat) (c : St) : St := (upd s.1 0 (nI (z + 1)), uA (uA (uA (uA s.2.1 1 z (nI i)) 2 z (c.2.1 3 i)) 3 z (c.2.1 4 i)) 4 z (c.2.1 5 i), s.2.2)
def uPut (s : St) (z i : Nat) (c : St) : St := if z = 20 then uPush (uShift s) 19 i c else uPush s z i c
def uZero (s : St) : St := (upd s.1 0 0, s.2.1, s.2.2.1, s.2.2.2)
def uPopS (s : St) (z : Nat) : St := (upd s.1 0 (nI z), s.2.1, s.2.2.1, s.2.2.2)
def uPopC (s : St) (z p : Nat) (c : St) : St := (c.1, uA (uA (uA c.2.1 3 p (s.2.1 2 z)) 4 p (s.2.1 3 z)) 5 p (s.2.1 4 z), c.2.2)
set_option maxRecDepth 100000 in
set_option maxHeartbeats 1000000 in
theorem dropF_V {d n0 : Nat} {κ : Kd} (hd : 1 ≤ d) {h : Hp} {b : Nat} {f : Nat → Int32} (ha : h b = some (.inl (0, 20, .inl f))) : V MX10_dropFirst (d, 0, 0, n0, κ) 0 0 h 0 [some (.ref b)] [] (fun r h' => r = none ∧ h' b = some (.inl (0, 20, .inl (shF f))) ∧ ∀ x : Nat, x ≠ b → h' x = h x) := by
  refine V.aload_n dX10_dropFirst_0 rfl ?_
  refine V.iconst (v := nI 1) dX10_dropFirst_1 (by decide) ?_
  refine V.aload_n dX10_dropFirst_2 rfl ?_
  refine V.iconst (v := nI 0) dX10_dropFirst_3 (by decide) ?_
  refine V.aload_n dX10_dropFirst_4 rfl ?_
  refine V.alen (v := nI 20) dX10_dropFirst_5 ha (by decide) rfl ?_
  refine V.iconst (v := nI 1) dX10_dropFirst_6 (by decide) ?_
  refine V.isub dX10_dropFirst_7 ?_
  rw [show nI 20 - nI 1 = nI 19 from by decide]
  refine V.copyI ml_X10_43 nat_arraycopy st_arraycopy ini_J10 dX10_dropFirst_8 ha ha (by decide) (by decide) (by decide) (by decide) (by decide) hd (by decide) ?_
  refine V.rowI (shF f) up_s (fun j hj => ?_) (fun h3 e3 o3 => ?_)
  · rw [show (nI 1).toNatClampNeg = 1 from by decide, show (nI 0).toNatClampNeg = 0 from by decide, show (nI 19).toNatClampNeg = 19 from by decide]
    unfold va_cpy shF
    by_cases q : j < 19
    · rw [if_pos ⟨by omega, by omega⟩, if_pos q]
      congr 1
      omega
    · rw [if_neg (by omega), if_neg q]
  · exact V.vret dX10_dropFirst_11 rfl ⟨rfl, e3, fun x hx => (o3 x hx).trans (up_n hx)⟩
set_option maxRecDepth 100000 in
set_option maxHeartbeats 1000000 in
theorem uZero_V {d n0 : Nat} {κ : Kd} (hd : 1 ≤ d) {h : Hp} {a : Nat} {s : St} (H : isR C10 h a s) : V MX10_forget (d, 0, 0, n0, κ) 0 0 h 0 [some (.ref a)] [] (fun v h' => v = none ∧ isR C10 h' a (uZero s) ∧ ∀ b : Nat, (b < a ∨ a + 5 ≤ b) → h' b = h b) := by
  have hfr : ∀ b : Nat, (b < a ∨ a + 5 ≤ b) → h b = h b := fun _ _ => rfl
  refine V.aload_n dX10_forget_0 rfl ?_
  refine V.iconst (v := 0) dX10_forget_1 (by decide) ?_
  refine V.putfH okX10 0 fl_X10_24 dX10_forget_2 (by decide) rfl H.1 (rfl) (rfl) (Nat.le_of_ble_eq_true rfl) (fun h1 eh1 oh1 => ?_)
  have H := isR.setI C10_ok H 0 _ (fun _ _ => rfl) eh1 oh1
  have hfr : ∀ b : Nat, (b < a ∨ a + 5 ≤ b) → h1 b = h b := fun b hb => (oh1 b (by omega)).trans (hfr b hb)
  refine V.vret dX10_forget_5 rfl ?_
  exact ⟨rfl, H, hfr⟩
set_option maxRecDepth 100000 in
set_option maxHeartbeats 1000000 in
theorem uPut_V {d n0 : Nat} {κ : Kd} (hd : 2 ≤ d) {h : Hp} {a b0 z i : Nat} {s c : St} (H : isR C10 h a s) (HC : isR C0 h b0 c) (hz : s.1 0 = nI z) (hz2 : z ≤ 20) (hi : i < 6) (hs : b0 + 7 ≤ a ∨ a + 5 ≤ b0) : V MX10_put (d, 0, 0, n0, κ) 0 0 h 0 [some (.ref a), some (.ref (b0)), some (.int (nI i))] [] (fun v h' => v = none ∧ isR C10 h' a (uPut s z i c) ∧ ∀ b : Nat, (b < a ∨ a + 5 ≤ b) → h' b = h b) := by
  have hJ : ∀ (h2 : Hp) (s2 : St) (z2 : Nat), isR C10 h2 a s2 → isR C0 h2 b0 c → (∀ b : Nat, (b < a ∨ a + 5 ≤ b) → h2 b = h b) → s2.1 0 = nI z2 → z2 < 20 → uPush s2 z2 i c = uPut s z i c → V MX10_put (d, 0, 0, n0, κ) 0 0 h2 47 [some (.ref a), some (.ref (b0)), some (.int (nI i))] [] (fun v h' => v = none ∧ isR C10 h' a (uPut s z i c) ∧ ∀ b : Nat, (b < a ∨ a + 5 ≤ b) → h' b = h b) := by
    intro h2 s2 z2 H HC hfr hz3 hz4 hE
    refine V.aload_n dX10_put_47 rfl ?_
    refine V.getf okX10 1 fl_X10_9 dX10_put_48 (by decide) H.1 rfl ?_
    refine V.aload_n dX10_put_51 rfl ?_
    refine V.getf okX10 0 fl_X10_24 dX10_put_52 (by decide) H.1 rfl ?_
    refine V.iload_n dX10_put_55 rfl ?_
    refine V.iastH dX10_put_56 (C10_r1 H) (hz3) (by omega) (by decide) (fun h1 eh1 oh1 => ?_)
    have H := isR.setA C10_ok H C10_in1 (by decide) _ _ eh1 oh1
    have HC := HC.kept C0_ok (fun b hb1 hb2 => oh1 b (by have hb3 : b < _ := hb2; simp only [C0] at hb3; omega))
    have hfr : ∀ b : Nat, (b < a ∨ a + 5 ≤ b) → h1 b = h b := fun b hb => (oh1 b (by omega)).trans (hfr b hb)
    refine V.aload_n dX10_put_57 rfl ?_
    refine V.getf okX10 2 fl_X10_15 dX10_put_58 (by decide) H.1 rfl ?_
    refine V.aload_n dX10_put_61 rfl ?_
    refine V.getf okX10 0 fl_X10_24 dX10_put_62 (by decide) H.1 rfl ?_
    refine V.aload_n dX10_put_65 rfl ?_
    refine V.getf okX0 3 fl_X10_32 dX10_put_66 (by decide) HC.1 rfl ?_
    refine V.iload_n dX10_put_69 rfl ?_
    refine V.ialdN dX10_put_70 (C0_r3 HC) (rfl) (by omega) (by decide) ?_
    refine V.iastH dX10_put_71 (C10_r2 H) (hz3) (by omega) (by decide) (fun h2 eh2 oh2 => ?_)
    have H := isR.setA C10_ok H C10_in2 (by decide) _ _ eh2 oh2
    have HC := HC.kept C0_ok (fun b hb1 hb2 => oh2 b (by have hb3 : b < _ := hb2; simp only [C0] at hb3; omega))
    have hfr : ∀ b : Nat, (b < a ∨ a + 5 ≤ b) → h2 b = h b := fun b hb => (oh2 b (by omega)).trans (hfr b hb)
    refine V.aload_n dX10_put_72 rfl ?_
    refine V.getf okX10 3 fl_X10_18 dX10_put_73 (by decide) H.1 rfl ?_
    refine V.aload_n dX10_put_76 rfl ?_
    refine V.getf okX10 0 fl_X10_24 dX10_put_77 (by decide) H.1 rfl ?_
    refine V.aload_n dX10_put_80 rfl ?_
    refine V.getf okX0 4 fl_X10_37 dX10_put_81 (by decide) HC.1 rfl ?_
    refine V.iload_n dX10_put_84 rfl ?_
    refine V.ialdN dX10_put_85 (C0_r4 HC) (rfl) (by omega) (by decide) ?_
    refine V.iastH dX10_put_86 (C10_r3 H) (hz3) (by omega) (by decide) (fun h3 eh3 oh3 => ?_)
    have H := isR.setA C10_ok H C10_in3 (by decide) _ _ eh3 oh3
    have HC := HC.kept C0_ok (fun b hb1 hb2 => oh3 b (by have hb3 : b < _ := hb2; simp only [C0] at hb3; omega))
    have hfr : ∀ b : Nat, (b < a ∨ a + 5 ≤ b) → h3 b = h b := fun b hb => (oh3 b (by omega)).trans (hfr b hb)
    refine V.aload_n dX10_put_87 rfl ?_
    refine V.getf okX10 4 fl_X10_21 dX10_put_88 (by decide) H.1 rfl ?_
    refine V.aload_n dX10_put_91 rfl ?_
    refine V.getf okX10 0 fl_X10_24 dX10_put_92 (by decide) H.1 rfl ?_
    refine V.aload_n dX10_put_95 rfl ?_
    refine V.getf okX0 5 fl_X10_40 dX10_put_96 (by decide) HC.1 rfl ?_
    refine V.iload_n dX10_put_99 rfl ?_
    refine V.ialdN dX10_put_100 (C0_r5 HC) (rfl) (by omega) (by decide) ?_
    refine V.iastH dX10_put_101 (C10_r4 H) (hz3) (by omega) (by decide) (fun h4 eh4 oh4 => ?_)
    have H := isR.setA C10_ok H C10_in4 (by decide) _ _ eh4 oh4
    have HC := HC.kept C0_ok (fun b hb1 hb2 => oh4 b (by have hb3 : b < _ := hb2; simp only [C0] at hb3; omega))
    have hfr : ∀ b : Nat, (b < a ∨ a + 5 ≤ b) → h4 b = h b := fun b hb => (oh4 b (by omega)).trans (hfr b hb)
    refine V.aload_n dX10_put_102 rfl ?_
    refine V.dup dX10_put_103 rfl ?_
    refine V.getf okX10 0 fl_X10_24 dX10_put_104 (by decide) H.1 rfl ?_
    refine V.iconst (v := 1) dX10_put_107 (by decide) ?_
    refine V.iadd dX10_put_108 ?_
    refine V.putfH okX10 0 fl_X10_24 dX10_put_109 (by decide) rfl H.1 (rfl) (rfl) (Nat.le_of_ble_eq_true rfl) (fun h5 eh5 oh5 => ?_)
    have H := isR.setI C10_ok H 0 _ (fun _ _ => rfl) eh5 oh5
    have HC := HC.kept C0_ok (fun b hb1 hb2 => oh5 b (by have hb3 : b < _ := hb2; simp only [C0] at hb3; omega))
    have hfr : ∀ b : Nat, (b < a ∨ a + 5 ≤ b) → h5 b = h b := fun b hb => (oh5 b (by omega)).trans (hfr b hb)
    refine V.vret dX10_put_112 rfl ?_
    exact ⟨rfl, by rw [← hE]; unfold uPush; rw [← nI_1, ← hz3]; exact H, hfr⟩
  have hfr : ∀ b : Nat, (b < a ∨ a + 5 ≤ b) → h b = h b := fun _ _ => rfl
  refine V.aload_n dX10_put_0 rfl ?_
  refine V.getf okX10 0 fl_X10_24 dX10_put_1 (by decide) H.1 rfl ?_
  refine V.bipush (v := nI 20) dX10_put_4 (by decide) ?_
  refine V.icmp_ne 47 dX10_put_6 (by decide) (fun c6 => ?_) (fun c6 => ?_)
  · skip
    have hz20 : ¬ z = 20 := fun q => c6 (by rw [hz, q])
    first
    | exact hJ h s z H HC hfr hz (by omega) (by unfold uPut; rw [if_neg hz20])
    | exact hJ h (uShift s) 19 (by unfold uShift; rw [show nI 19 = s.1 0 - 1 by rw [hz, hz20]; rfl]; exact H) HC hfr rfl (by omega) (by unfold uPut; rw [if_pos hz20])
  · skip
    have hz20 : z = 20 := (nI_eq (by omega) (by decide)).mp (hz.symm.trans c6)
    refine V.aload_n dX10_put_9 rfl ?_
    refine V.getf okX10 1 fl_X10_9 dX10_put_10 (by decide) H.1 rfl ?_
    refine V.cS1 yoX10_dropFirst ml_X10_28 st_X10_dropFirst dX10_put_13 (Nat.le_of_ble_eq_true rfl) (by omega) ⟨Nat.le_refl _, Nat.le_refl _⟩ rfl (Nat.le_of_ble_eq_true rfl) (dropF_V (by omega) (C10_r1 H)) ?_
    rintro _ h1 ⟨rfl, eh1, oh1⟩
    have H := isR.setAR C10_ok H C10_in1 (by decide) _ eh1 oh1
    have HC := HC.kept C0_ok (fun b hb1 hb2 => oh1 b (by have hb3 : b < _ := hb2; simp only [C0] at hb3; omega))
    have hfr : ∀ b : Nat, (b < a ∨ a + 5 ≤ b) → h1 b = h b := fun b hb => (oh1 b (by omega)).trans (hfr b hb)
    refine V.aload_n dX10_put_16 rfl ?_
    refine V.getf okX10 2 fl_X10_15 dX10_put_17 (by decide) H.1 rfl ?_
    refine V.cS1 yoX10_dropFirst ml_X10_28 st_X10_dropFirst dX10_put_20 (Nat.le_of_ble_eq_true rfl) (by omega) ⟨Nat.le_refl _, Nat.le_refl _⟩ rfl (Nat.le_of_ble_eq_true rfl) (dropF_V (by omega) (C10_r2 H)) ?_
    rintro _ h2 ⟨rfl, eh2, oh2⟩
    have H := isR.setAR C10_ok H C10_in2 (by decide) _ eh2 oh2
    have HC := HC.kept C0_ok (fun b hb1 hb2 => oh2 b (by have hb3 : b < _ := hb2; simp only [C0] at hb3; omega))
    have hfr : ∀ b : Nat, (b < a ∨ a + 5 ≤ b) → h2 b = h b := fun b hb => (oh2 b (by omega)).trans (hfr b hb)
    refine V.aload_n dX10_put_23 rfl ?_
    refine V.getf okX10 3 fl_X10_18 dX10_put_24 (by decide) H.1 rfl ?_
    refine V.cS1 yoX10_dropFirst ml_X10_28 st_X10_dropFirst dX10_put_27 (Nat.le_of_ble_eq_true rfl) (by omega) ⟨Nat.le_refl _, Nat.le_refl _⟩ rfl (Nat.le_of_ble_eq_true rfl) (dropF_V (by omega) (C10_r3 H)) ?_
    rintro _ h3 ⟨rfl, eh3, oh3⟩
    have H := isR.setAR C10_ok H C10_in3 (by decide) _ eh3 oh3
    have HC := HC.kept C0_ok (fun b hb1 hb2 => oh3 b (by have hb3 : b < _ := hb2; simp only [C0] at hb3; omega))
    have hfr : ∀ b : Nat, (b < a ∨ a + 5 ≤ b) → h3 b = h b := fun b hb => (oh3 b (by omega)).trans (hfr b hb)
    refine V.aload_n dX10_put_30 rfl ?_
    refine V.getf okX10 4 fl_X10_21 dX10_put_31 (by decide) H.1 rfl ?_
    refine V.cS1 yoX10_dropFirst ml_X10_28 st_X10_dropFirst dX10_put_34 (Nat.le_of_ble_eq_true rfl) (by omega) ⟨Nat.le_refl _, Nat.le_refl _⟩ rfl (Nat.le_of_ble_eq_true rfl) (dropF_V (by omega) (C10_r4 H)) ?_
    rintro _ h4 ⟨rfl, eh4, oh4⟩
    have H := isR.setAR C10_ok H C10_in4 (by decide) _ eh4 oh4
    have HC := HC.kept C0_ok (fun b hb1 hb2 => oh4 b (by have hb3 : b < _ := hb2; simp only [C0] at hb3; omega))
    have hfr : ∀ b : Nat, (b < a ∨ a + 5 ≤ b) → h4 b = h b := fun b hb => (oh4 b (by omega)).trans (hfr b hb)
    refine V.aload_n dX10_put_37 rfl ?_
    refine V.dup dX10_put_38 rfl ?_
    refine V.getf okX10 0 fl_X10_24 dX10_put_39 (by decide) H.1 rfl ?_
    refine V.iconst (v := 1) dX10_put_42 (by decide) ?_
    refine V.isub dX10_put_43 ?_
    refine V.putfH okX10 0 fl_X10_24 dX10_put_44 (by decide) rfl H.1 (rfl) (rfl) (Nat.le_of_ble_eq_true rfl) (fun h5 eh5 oh5 => ?_)
    have H := isR.setI C10_ok H 0 _ (fun _ _ => rfl) eh5 oh5
    have HC := HC.kept C0_ok (fun b hb1 hb2 => oh5 b (by have hb3 : b < _ := hb2; simp only [C0] at hb3; omega))
    have hfr : ∀ b : Nat, (b < a ∨ a + 5 ≤ b) → h5 b = h b := fun b hb => (oh5 b (by omega)).trans (hfr b hb)
    first
    | exact hJ h5 s z H HC hfr hz (by omega) (by unfold uPut; rw [if_neg hz20])
    | exact hJ h5 (uShift s) 19 (by unfold uShift; rw [show nI 19 = s.1 0 - 1 by rw [hz, hz20]; rfl]; exact H) HC hfr rfl (by omega) (by unfold uPut; rw [if_pos hz20])
set_option maxRecDepth 100000 in
set_option maxHeartbeats 1000000 in
theorem uPop_V {d n0 : Nat} {κ : Kd} (hd : 1 ≤ d) {h : Hp} {a b0 z p : Nat} {s c : St} (H : isR C10 h a s) (HC : isR C0 h b0 c) (hz : s.1 0 = nI (z + 1)) (hz2 : z < 20) (hp : s.2.1 1 z = nI p) (hp2 : p < 6) (hs : b0 + 7 ≤ a ∨ a + 5 ≤ b0) : V MX10_takeBack (d, 0, 0, n0, κ) 0 0 h 0 [some (.ref a), some (.ref (b0)), none] [] (fun v h' => v = none ∧ isR C10 h' a (uPopS s z) ∧ isR C0 h' b0 (uPopC s z p c) ∧ ∀ b : Nat, ((b < a ∨ a + 5 ≤ b) ∧ (b < b0 ∨ b0 + 7 ≤ b)) → h' b = h b) := by
  have hfr : ∀ b : Nat, ((b < a ∨ a + 5 ≤ b) ∧ (b < b0 ∨ b0 + 7 ≤ b)) → h b = h b := fun _ _ => rfl
  refine V.aload_n dX10_takeBack_0 rfl ?_
  refine V.getf okX10 0 fl_X10_24 dX10_takeBack_1 (by decide) H.1 rfl ?_
  refine V.if_le 72 dX10_takeBack_4 (by decide) (fun z => absurd z (by rw [hz]; exact nI_nle (by omega) (by omega))) (fun _ => ?_)
  refine V.aload_n dX10_takeBack_7 rfl ?_
  refine V.dup dX10_takeBack_8 rfl ?_
  refine V.getf okX10 0 fl_X10_24 dX10_takeBack_9 (by decide) H.1 rfl ?_
  refine V.iconst (v := 1) dX10_takeBack_12 (by decide) ?_
  refine V.isub dX10_takeBack_13 ?_
  refine V.putfH okX10 0 fl_X10_24 dX10_takeBack_14 (by decide) rfl H.1 (rfl) (rfl) (Nat.le_of_ble_eq_true rfl) (fun h1 eh1 oh1 => ?_)
  have H := isR.setI C10_ok H 0 _ (fun _ _ => rfl) eh1 oh1
  have HC := HC.kept C0_ok (fun b hb1 hb2 => oh1 b (by have hb3 : b < _ := hb2; simp only [C0] at hb3; omega))
  have hfr : ∀ b : Nat, ((b < a ∨ a + 5 ≤ b) ∧ (b < b0 ∨ b0 + 7 ≤ b)) → h1 b = h b := fun b hb => (oh1 b (by omega)).trans (hfr b hb)
  have H : isR C10 h1 a (uPopS s z) := by unfold uPopS; rw [show nI z = s.1 0 - 1 by rw [hz, nI_pred]]; exact H
  refine V.aload_n dX10_takeBack_17 rfl ?_
  refine V.getf okX10 1 fl_X10_9 dX10_takeBack_18 (by decide) H.1 rfl ?_
  refine V.aload_n dX10_takeBack_21 rfl ?_
  refine V.getf okX10 0 fl_X10_24 dX10_takeBack_22 (by decide) H.1 rfl ?_
  refine V.ialdN dX10_takeBack_25 (C10_r1 H) (rfl) (by omega) (by decide) ?_
  rw [show (uPopS s z).2.1 1 z = nI p from hp]
  refine V.istore_n dX10_takeBack_26 (by decide) rfl ?_
  refine V.aload_n dX10_takeBack_27 rfl ?_
  refine V.getf okX0 3 fl_X10_32 dX10_takeBack_28 (by decide) HC.1 rfl ?_
  refine V.iload_n dX10_takeBack_31 rfl ?_
  refine V.aload_n dX10_takeBack_32 rfl ?_
  refine V.getf okX10 2 fl_X10_15 dX10_takeBack_33 (by decide) H.1 rfl ?_
  refine V.aload_n dX10_takeBack_36 rfl ?_
  refine V.getf okX10 0 fl_X10_24 dX10_takeBack_37 (by decide) H.1 rfl ?_
  refine V.ialdN dX10_takeBack_40 (C10_r2 H) (rfl) (by omega) (by decide) ?_
  refine V.iastH dX10_takeBack_41 (C0_r3 HC) (rfl) (by omega) (by decide) (fun h2 eh2 oh2 => ?_)
  have HC := isR.setA C0_ok HC C0_in3 (by decide) _ _ eh2 oh2
  have H := H.kept C10_ok (fun b hb1 hb2 => oh2 b (by have hb3 : b < _ := hb2; simp only [C10] at hb3; omega))
  have hfr : ∀ b : Nat, ((b < a ∨ a + 5 ≤ b) ∧ (b < b0 ∨ b0 + 7 ≤ b)) → h2 b = h b := fun b hb => (oh2 b (by omega)).trans (hfr b hb)
  refine V.aload_n dX10_takeBack_42 rfl ?_
  refine V.getf okX0 4 fl_X10_37 dX10_takeBack_43 (by decide) HC.1 rfl ?_
  refine V.iload_n dX10_takeBack_46 rfl ?_
  refine V.aload_n dX10_takeBack_47 rfl ?_
  refine V.getf okX10 3 fl_X10_18 dX10_takeBack_48 (by decide) H.1 rfl ?_
  refine V.aload_n dX10_takeBack_51 rfl ?_
  refine V.getf okX10 0 fl_X10_24 dX10_takeBack_52 (by decide) H.1 rfl ?_
  refine V.ialdN dX10_takeBack_55 (C10_r3 H) (rfl) (by omega) (by decide) ?_
  refine V.iastH dX10_takeBack_56 (C0_r4 HC) (rfl) (by omega) (by decide) (fun h3 eh3 oh3 => ?_)
  have HC := isR.setA C0_ok HC C0_in4 (by decide) _ _ eh3 oh3
  have H := H.kept C10_ok (fun b hb1 hb2 => oh3 b (by have hb3 : b < _ := hb2; simp only [C10] at hb3; omega))
  have hfr : ∀ b : Nat, ((b < a ∨ a + 5 ≤ b) ∧ (b < b0 ∨ b0 + 7 ≤ b)) → h3 b = h b := fun b hb => (oh3 b (by omega)).trans (hfr b hb)
  refine V.aload_n dX10_takeBack_57 rfl ?_
  refine V.getf okX0 5 fl_X10_40 dX10_takeBack_58 (by decide) HC.1 rfl ?_
  refine V.iload_n dX10_takeBack_61 rfl ?_
  refine V.aload_n dX10_takeBack_62 rfl ?_
  refine V.getf okX10 4 fl_X10_21 dX10_takeBack_63 (by decide) H.1 rfl ?_
  refine V.aload_n dX10_takeBack_66 rfl ?_
  refine V.getf okX10 0 fl_X10_24 dX10_takeBack_67 (by decide) H.1 rfl ?_
  refine V.ialdN dX10_takeBack_70 (C10_r4 H) (rfl) (by omega) (by decide) ?_
  refine V.iastH dX10_takeBack_71 (C0_r5 HC) (rfl) (by omega) (by decide) (fun h4 eh4 oh4 => ?_)
  have HC := isR.setA C0_ok HC C0_in5 (by decide) _ _ eh4 oh4
  have H := H.kept C10_ok (fun b hb1 hb2 => oh4 b (by have hb3 : b < _ := hb2; simp only [C10] at hb3; omega))
  have hfr : ∀ b : Nat, ((b < a ∨ a + 5 ≤ b) ∧ (b < b0 ∨ b0 + 7 ≤ b)) → h4 b = h b := fun b hb => (oh4 b (by omega)).trans (hfr b hb)
  refine V.vret dX10_takeBack_72 rfl ?_
  exact ⟨rfl, H, HC, hfr⟩
