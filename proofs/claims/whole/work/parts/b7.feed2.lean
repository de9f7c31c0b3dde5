/-! The face of BurntEnds: feed -/
def usB (x k : Int32) : Int32 := (x.toUInt32 >>> (k.toUInt32 &&& Int32.toUInt32 31)).toInt32 &&& 255
theorem usB_eq (x : Int32) {j : Nat} (hj : j < 4) : usB x (nI (24 - 8 * j)) = byteF x j := by
  have e : byteF x j = (x >>> (nI (24 - 8 * (j % 4)) &&& 31)) &&& 255 := rfl
  rw [e, Nat.mod_eq_of_lt hj]
  unfold usB
  apply Int32.toBitVec_inj.mp
  have key : ∀ (b : BitVec 32) (m : Nat), m ≤ 24 → (b >>> m) &&& 255#32 = (b.sshiftRight m) &&& 255#32 := by
    intro b m hm
    apply BitVec.eq_of_getLsbD_eq
    intro i hi
    rw [BitVec.getLsbD_and, BitVec.getLsbD_and]
    by_cases h8 : i < 8
    · rw [BitVec.getLsbD_ushiftRight, BitVec.getLsbD_sshiftRight]
      have h1 : decide (32 ≤ i) = false := by simp; omega
      have h2 : m + i < 32 := by omega
      simp [h1, h2]
    · have h3 : (255#32 : BitVec 32).getLsbD i = false := by
        have : ∀ i : Fin 32, 8 ≤ i.val → (255#32 : BitVec 32).getLsbD i.val = false := by decide
        exact this ⟨i, hi⟩ (by simp only; omega)
      rw [h3, Bool.and_false, Bool.and_false]
  rcases (show j = 0 ∨ j = 1 ∨ j = 2 ∨ j = 3 by omega) with q | q | q | q <;> subst q
  · exact key x.toBitVec 24 (by decide)
  · exact key x.toBitVec 16 (by decide)
  · exact key x.toBitVec 8 (by decide)
  · exact key x.toBitVec 0 (by decide)
set_option maxRecDepth 100000 in
set_option maxHeartbeats 1000000 in
theorem putOne_F {d n0 z : Nat} {κ : Kd} {h0 : Hp} (hd : 1 ≤ d) {s : St} {T T2 : Tx} {c g th u F k pa tu rd tk : St} {x y : Int32} {t : Nat} (ht : s.1 1 = nI t) (ht7 : t < 700) {P : Option Value → FS → Prop}
    (kk : GV (IB z h0) MX11_putBytes (d, 0, 0, n0, κ) (mkF (upd s.1 1 (nI (t + 1)), uA s.2.1 0 t (usB x y), s.2.2) T T2 c g th u F k pa tu rd tk) 49 [some (.ref z), some (.int x), some (.int y)] [] P) : GV (IB z h0) MX11_putBytes (d, 0, 0, n0, κ) (mkF s T T2 c g th u F k pa tu rd tk) 7 [some (.ref z), some (.int x), some (.int y)] [] P := by
  refine GV.aload_n dX11_putBytes_7 rfl ?_
  refine GV.getf okX11 1 (fun h H => H.aown.1) fl_X11_86 dX11_putBytes_8 (by decide) rfl ?_
  refine GV.if_lt 49 dX11_putBytes_11 (by decide) (fun z => absurd z (by rw [ht]; exact nI_pos (by omega))) (fun _ => ?_)
  refine GV.aload_n dX11_putBytes_14 rfl ?_
  refine GV.getf okX11 1 (fun h H => H.aown.1) fl_X11_86 dX11_putBytes_15 (by decide) rfl ?_
  refine GV.aload_n dX11_putBytes_18 rfl ?_
  refine GV.getf okX11 0 (fun h H => H.aown.1) fl_X11_11 dX11_putBytes_19 (by decide) rfl ?_
  refine GV.alen (v := nI 700) (fun h H => C11_r0 H.aown) dX11_putBytes_22 (by decide) rfl ?_
  refine GV.icmp_ge 49 dX11_putBytes_23 (by decide) (fun z => absurd z (by rw [ht]; exact nI_ge (b := 700) ht7 (by decide))) (fun _ => ?_)
  refine GV.aload_n dX11_putBytes_26 rfl ?_
  refine GV.getf okX11 0 (fun h H => H.aown.1) fl_X11_11 dX11_putBytes_27 (by decide) rfl ?_
  refine GV.aload_n dX11_putBytes_30 rfl ?_
  refine GV.dup dX11_putBytes_31 rfl ?_
  refine GV.getf okX11 1 (fun h H => H.aown.1) fl_X11_86 dX11_putBytes_32 (by decide) rfl ?_
  refine GV.dup_x1 dX11_putBytes_35 rfl rfl ?_
  refine GV.iconst (v := 1) dX11_putBytes_36 (by decide) ?_
  refine GV.iadd dX11_putBytes_37 ?_
  refine GV.eqi (y := nI (t + 1)) (by rw [ht, nI_1]) ?_
  refine GV.putf okX11 1 (fun h H => H.aown.1) fl_X11_86 dX11_putBytes_38 (by decide) rfl (rfl) (rfl) (Nat.le_of_ble_eq_true rfl) (fun h h' H e o => H.ws (isR.setI C11_ok H.aown 1 _ (fun _ _ => rfl) e o) rfl rfl (fun b hb => o b (by omega))) ?_
  refine GV.iload_n dX11_putBytes_41 rfl ?_
  refine GV.iload_n dX11_putBytes_42 rfl ?_
  refine GV.iushr dX11_putBytes_43 ?_
  refine GV.sipush (v := 255) dX11_putBytes_44 (by decide) ?_
  refine GV.iand dX11_putBytes_47 ?_
  refine GV.ast (fun h H => C11_r0 H.aown) dX11_putBytes_48 (ht) (ht7) (by decide) (fun h h' H e o => H.ws (isR.setA C11_ok H.aown C11_in0 (by decide) _ _ e o) rfl rfl (fun b hb => o b (by omega))) ?_
  exact kk
set_option maxRecDepth 100000 in
set_option maxHeartbeats 1000000 in
theorem putBytes0_F {d n0 z : Nat} {κ : Kd} {h0 : Hp} (hd : 1 ≤ d) {s : St} {T T2 : Tx} {c g th u F k pa tu rd tk : St} {x : Int32} {t : Nat} (ht : s.1 1 = nI t) (ht7 : t + 4 ≤ 700) : GV (IB z h0) MX11_putBytes (d, 0, 0, n0, κ) (mkF s T T2 c g th u F k pa tu rd tk) 0 [some (.ref z), some (.int (x)), none] [] (fun v S' => v = none ∧ ∃ s' : St, S' = mkF s' T T2 c g th u F k pa tu rd tk ∧ s'.1 1 = nI (t + 4) ∧ s'.1 7 = s.1 7 ∧ s'.2.1 0 = upd (upd (upd (upd (s.2.1 0) t (usB x 24)) (t + 1) (usB x (24 + -8))) (t + 2) (usB x (24 + -8 + -8))) (t + 3) (usB x (24 + -8 + -8 + -8)) ∧ s'.2.2 = s.2.2) := by
  refine GV.bipush (v := 24) dX11_putBytes_0 (by decide) ?_
  refine GV.istore_n dX11_putBytes_2 (by decide) rfl ?_
  refine GV.iload_n dX11_putBytes_3 rfl ?_
  refine GV.if_lt 55 dX11_putBytes_4 (by decide) (fun z => absurd z (by decide)) (fun _ => ?_)
  refine putOne_F (t := t + 0) (by omega) (ht) (by omega) ?_
  refine GV.iinc (v := (-8)) dX11_putBytes_49 rfl (by decide) (by decide) rfl ?_
  refine GV.goto 3 dX11_putBytes_52 (by decide) ?_
  refine GV.iload_n dX11_putBytes_3 rfl ?_
  refine GV.if_lt 55 dX11_putBytes_4 (by decide) (fun z => absurd z (by decide)) (fun _ => ?_)
  refine putOne_F (t := t + 1) (by omega) (rfl) (by omega) ?_
  refine GV.iinc (v := (-8)) dX11_putBytes_49 rfl (by decide) (by decide) rfl ?_
  refine GV.goto 3 dX11_putBytes_52 (by decide) ?_
  refine GV.iload_n dX11_putBytes_3 rfl ?_
  refine GV.if_lt 55 dX11_putBytes_4 (by decide) (fun z => absurd z (by decide)) (fun _ => ?_)
  refine putOne_F (t := t + 2) (by omega) (rfl) (by omega) ?_
  refine GV.iinc (v := (-8)) dX11_putBytes_49 rfl (by decide) (by decide) rfl ?_
  refine GV.goto 3 dX11_putBytes_52 (by decide) ?_
  refine GV.iload_n dX11_putBytes_3 rfl ?_
  refine GV.if_lt 55 dX11_putBytes_4 (by decide) (fun z => absurd z (by decide)) (fun _ => ?_)
  refine putOne_F (t := t + 3) (by omega) (rfl) (by omega) ?_
  refine GV.iinc (v := (-8)) dX11_putBytes_49 rfl (by decide) (by decide) rfl ?_
  refine GV.goto 3 dX11_putBytes_52 (by decide) ?_
  refine GV.iload_n dX11_putBytes_3 rfl ?_
  refine GV.if_lt 55 dX11_putBytes_4 (by decide) (fun _ => ?_) (fun z => absurd (by decide) z)
  refine GV.vret dX11_putBytes_55 rfl ?_
  exact ⟨rfl, _, rfl, rfl, rfl, rfl, rfl⟩
def fourB (x : Int32) (r : Nat → Int32) (t : Nat) : Nat → Int32 := upd (upd (upd (upd r t (byteF x 0)) (t + 1) (byteF x 1)) (t + 2) (byteF x 2)) (t + 3) (byteF x 3)
theorem putBytes_F {d n0 z : Nat} {κ : Kd} {h0 : Hp} (hd : 1 ≤ d) {s : St} {T T2 : Tx} {c g th u F k pa tu rd tk : St} {x : Int32} {t : Nat} (ht : s.1 1 = nI t) (ht7 : t + 4 ≤ 700) : GV (IB z h0) MX11_putBytes (d, 0, 0, n0, κ) (mkF s T T2 c g th u F k pa tu rd tk) 0 [some (.ref z), some (.int x), none] [] (fun v S' => v = none ∧ ∃ s' : St, S' = mkF s' T T2 c g th u F k pa tu rd tk ∧ s'.1 1 = nI (t + 4) ∧ s'.1 7 = s.1 7 ∧ s'.2.1 0 = fourB x (s.2.1 0) t ∧ s'.2.2 = s.2.2) :=
  (putBytes0_F hd ht ht7).post fun v S' ⟨e, s', e1, e2, e3, e4, e5⟩ => ⟨e, s', e1, e2, e3, by
    rw [e4]
    unfold fourB
    rw [← usB_eq x (j := 0) (by decide), ← usB_eq x (j := 1) (by decide), ← usB_eq x (j := 2) (by decide), ← usB_eq x (j := 3) (by decide)]
    rfl, e5⟩
theorem feed_four (a b c e f : Int32) (r : Nat → Int32) (t : Nat) : fourB f (fourB e (fourB c (fourB b (fourB a r t) (t + 4)) (t + 8)) (t + 12)) (t + 16) = feedF a b c e f r t 20 := rfl
set_option maxRecDepth 100000 in
set_option maxHeartbeats 1000000 in
theorem feed_F {d n0 z : Nat} {κ : Kd} {h0 : Hp} (hd : 2 ≤ d) {s : St} {T T2 : Tx} {c g th u F k pa tu rd tk : St} {x1 x2 x3 x4 x5 : Int32} {t : Nat} (ht : s.1 1 = nI t) (ht7 : t ≤ 700) : GV (IB z h0) MX11_feed (d, 0, 0, n0, κ) (mkF s T T2 c g th u F k pa tu rd tk) 0 [some (.ref z), some (.int (x1)), some (.int (x2)), some (.int (x3)), some (.int (x4)), some (.int (x5))] [] (fun v S' => v = some (.int (if t ≤ 680 then nI (t + 20) else -1)) ∧ ∃ s' : St, S' = mkF s' T T2 c g th u F k pa tu rd tk ∧ s'.1 1 = (if t ≤ 680 then nI (t + 20) else nI t) ∧ s'.1 7 = s.1 7 ∧ s'.2.1 0 = (if t ≤ 680 then feedF x1 x2 x3 x4 x5 (s.2.1 0) t 20 else s.2.1 0) ∧ s'.2.2 = s.2.2) := by
  refine GV.aload_n dX11_feed_0 rfl ?_
  refine GV.getf okX11 1 (fun h H => H.aown.1) fl_X11_86 dX11_feed_1 (by decide) rfl ?_
  refine GV.bipush (v := 20) dX11_feed_4 (by decide) ?_
  refine GV.iadd dX11_feed_6 ?_
  refine GV.eqi (y := nI (t + 20)) (by rw [ht]; exact nI_add t 20) ?_
  refine GV.sipush (v := 700) dX11_feed_7 (by decide) ?_
  refine GV.icmp_le 15 dX11_feed_10 (by decide) (fun c10 => ?_) (fun c10 => ?_)
  · skip
    have h68 : t ≤ 680 := Nat.not_lt.mp fun z => absurd c10 (show ¬ nI (t + 20) ≤ nI 700 from nI_ge (by omega) (by omega))
    refine GV.aload_n dX11_feed_15 rfl ?_
    refine GV.iload_n dX11_feed_16 rfl ?_
    refine GV.cV1 (ci := 11) yoX11_putBytes ml_X11_90 im_X11_putBytes se_X11_putBytes dX11_feed_17 rfl (fun h H => H.aown.1) (Nat.le_of_ble_eq_true rfl) (by omega) rfl (Nat.le_of_ble_eq_true rfl) (putBytes_F (t := t + 0) (by omega) ht (by omega)) ?_
    rintro _ _ ⟨rfl, s1, rfl, t1, p1, r1, f1⟩
    refine GV.aload_n dX11_feed_20 rfl ?_
    refine GV.iload_n dX11_feed_21 rfl ?_
    refine GV.cV1 (ci := 11) yoX11_putBytes ml_X11_90 im_X11_putBytes se_X11_putBytes dX11_feed_22 rfl (fun h H => H.aown.1) (Nat.le_of_ble_eq_true rfl) (by omega) rfl (Nat.le_of_ble_eq_true rfl) (putBytes_F (t := t + 4) (by omega) t1 (by omega)) ?_
    rintro _ _ ⟨rfl, s2, rfl, t2, p2, r2, f2⟩
    refine GV.aload_n dX11_feed_25 rfl ?_
    refine GV.iload_n dX11_feed_26 rfl ?_
    refine GV.cV1 (ci := 11) yoX11_putBytes ml_X11_90 im_X11_putBytes se_X11_putBytes dX11_feed_27 rfl (fun h H => H.aown.1) (Nat.le_of_ble_eq_true rfl) (by omega) rfl (Nat.le_of_ble_eq_true rfl) (putBytes_F (t := t + 8) (by omega) t2 (by omega)) ?_
    rintro _ _ ⟨rfl, s3, rfl, t3, p3, r3, f3⟩
    refine GV.aload_n dX11_feed_30 rfl ?_
    refine GV.iload dX11_feed_31 rfl ?_
    refine GV.cV1 (ci := 11) yoX11_putBytes ml_X11_90 im_X11_putBytes se_X11_putBytes dX11_feed_33 rfl (fun h H => H.aown.1) (Nat.le_of_ble_eq_true rfl) (by omega) rfl (Nat.le_of_ble_eq_true rfl) (putBytes_F (t := t + 12) (by omega) t3 (by omega)) ?_
    rintro _ _ ⟨rfl, s4, rfl, t4, p4, r4, f4⟩
    refine GV.aload_n dX11_feed_36 rfl ?_
    refine GV.iload dX11_feed_37 rfl ?_
    refine GV.cV1 (ci := 11) yoX11_putBytes ml_X11_90 im_X11_putBytes se_X11_putBytes dX11_feed_39 rfl (fun h H => H.aown.1) (Nat.le_of_ble_eq_true rfl) (by omega) rfl (Nat.le_of_ble_eq_true rfl) (putBytes_F (t := t + 16) (by omega) t4 (by omega)) ?_
    rintro _ _ ⟨rfl, s5, rfl, t5, p5, r5, f5⟩
    refine GV.aload_n dX11_feed_42 rfl ?_
    refine GV.getf okX11 1 (fun h H => H.aown.1) fl_X11_86 dX11_feed_43 (by decide) rfl ?_
    refine GV.iret dX11_feed_46 rfl ?_
    rw [if_pos h68, if_pos h68, if_pos h68]
    refine ⟨by rw [t5], s5, rfl, t5, p5.trans (p4.trans (p3.trans (p2.trans p1))), ?_, f5.trans (f4.trans (f3.trans (f2.trans f1)))⟩
    rw [r5, r4, r3, r2, r1]
    exact feed_four x1 x2 x3 x4 x5 (s.2.1 0) t
  · skip
    have h68 : ¬ t ≤ 680 := fun z => c10 (show nI (t + 20) ≤ nI 700 from nI_le (by omega) (by decide))
    refine GV.iconst (v := (-1)) dX11_feed_13 (by decide) ?_
    refine GV.iret dX11_feed_14 rfl ?_
    rw [if_neg h68, if_neg h68, if_neg h68]
    exact ⟨rfl, s, rfl, ht, rfl, rfl, rfl⟩
