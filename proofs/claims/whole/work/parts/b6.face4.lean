/-! The face of BurntEnds: light, blow, cut, undo, keep, back, see, strike, known -/
theorem GV.up {σ : Type} {I : σ → Hp → Prop} {d n0 : Nat} {κ : Kd} {Yc : Yd} {s s1 : σ} {Lc : List (Option Value)} {Q : Hp → Option Value → Hp → Prop} {r : Option Value} (hV : ∀ h, I s h → V Yc (d, 0, 0, n0, κ) 0 0 h 0 Lc [] (Q h)) (hq : ∀ h v h', I s h → Q h v h' → v = r ∧ I s1 h') : GV I Yc (d, 0, 0, n0, κ) s 0 Lc [] (gW r s1) :=
  fun h H => V.post (fun _ _ z => ⟨s1, ⟨(hq h _ _ H z).1, rfl⟩, (hq h _ _ H z).2⟩) (hV h H)
theorem IB.wcu {z : Nat} {h0 h h' : Hp} {s : St} {T T2 : Tx} {c g th u F k pa tu rd tk c' u' : St} (H : IB z h0 (mkF s T T2 c g th u F k pa tu rd tk) h) (Hc : isR C0 h' (z + 63) c') (Hu : isR C10 h' (z + 104) u') (fr : ∀ b : Nat, ((b < z + 104 ∨ z + 104 + 5 ≤ b) ∧ (b < z + 63 ∨ z + 63 + 7 ≤ b)) → h' b = h b) : IB z h0 (mkF s T T2 c' g th u' F k pa tu rd tk) h' := by
  have sp : (s.2.2.2 3 = z + 25 ∧ s.2.2.2 4 = z + 44) ∨ (s.2.2.2 3 = z + 44 ∧ s.2.2.2 4 = z + 25) := H.1.2.1
  have a := isB.put (D := fun b => (z + 63 ≤ b ∧ b < z + 70) ∨ (z + 104 ≤ b ∧ b < z + 109)) H.1 (fun b hb => fr b (by omega))
  have q : ∀ b : Nat, ((z + 63 ≤ b ∧ b < z + 70) ∨ (z + 104 ≤ b ∧ b < z + 109)) → (z + 63 ≤ b ∧ b < z + 70) ∨ (z + 104 ≤ b ∧ b < z + 109) := fun b d => d
  refine ⟨⟨a.1 (fun b d => by have := q b d; omega), H.1.2.1, a.2.1 (fun b d => by have := q b d; omega), a.2.2.1 (fun b d => by have := q b d; omega), Hc, a.2.2.2.2.1 (fun b d => by have := q b d; omega), a.2.2.2.2.2.1 (fun b d => by have := q b d; omega), Hu, a.2.2.2.2.2.2.2.1 (fun b d => by have := q b d; omega), a.2.2.2.2.2.2.2.2.1 (fun b d => by have := q b d; omega), a.2.2.2.2.2.2.2.2.2.1 (fun b d => by have := q b d; omega), a.2.2.2.2.2.2.2.2.2.2.1 (fun b d => by have := q b d; omega), (a.2.2.2.2.2.2.2.2.2.2.2 (fun b d => by have := q b d; omega)).1, (a.2.2.2.2.2.2.2.2.2.2.2 (fun b d => by have := q b d; omega)).2⟩, fun b hb => (fr b (by omega)).trans (H.2 b hb)⟩
theorem end_of {y : Int32} (h : isEndB y = true) : ∃ e, y = nI e ∧ e < 2 := isEnd_of h
set_option maxRecDepth 100000 in
set_option maxHeartbeats 1000000 in
theorem light_F {d n0 z : Nat} {κ : Kd} {h0 : Hp} (hd : 3 ≤ d) {s : St} {T T2 : Tx} {c g th u F k pa tu rd tk : St} {x y : Int32} (hw : wfT T) (hu : okN (u.1 0) 21) : GV (IB z h0) MX11_light (d, 0, 0, n0, κ) (mkF s T T2 c g th u F k pa tu rd tk) 0 [some (.ref z), some (.int (x)), some (.int (y))] [] (gW (some (.int (bI (aLitB T c x y)))) (mkF s T T2 (aLitC T c x y) g th (aLitU T c u x y) F k pa tu rd tk)) := by
  refine GV.aload_n dX11_light_0 rfl ?_
  refine GV.iload_n dX11_light_1 rfl ?_
  refine GV.cV1 (ci := 11) yoX11_isPerson ml_X11_120 im_X11_isPerson se_X11_isPerson dX11_light_2 rfl (fun h H => H.aown.1) (Nat.le_of_ble_eq_true rfl) (by omega) rfl (Nat.le_of_ble_eq_true rfl) (isPerson_F (by omega)) (GV.rdK ?_)
  refine GV.if_eq 27 dX11_light_5 (by decide) (fun c5 => ?_) (fun c5 => ?_)
  · skip
    have hno := bI_f c5
    have hA : aLitB T c x y = false := by unfold aLitB; rw [hno]; rfl
    refine GV.iconst (v := 0) dX11_light_27 (by decide) ?_
    refine GV.zret .boolean dX11_light_28 rfl (rfl) ?_
    refine ⟨by rw [hA]; rfl, ?_⟩
    unfold aLitC aLitU
    rw [if_neg (by rw [hA]; decide), if_neg (by rw [hA]; decide)]
  · skip
    have hman := bI_t c5
    obtain ⟨p, rfl, hpn, hp6, hnp⟩ := man_of hw hman
    refine GV.iload_n dX11_light_8 rfl ?_
    refine GV.cS1 yoX11_isEnd ml_X11_252 st_X11_isEnd dX11_light_9 (Nat.le_of_ble_eq_true rfl) (by omega) rfl (Nat.le_of_ble_eq_true rfl) (GV.rd (fun _ _ => isEnd_V (by omega))) (GV.rdK ?_)
    refine GV.if_eq 27 dX11_light_12 (by decide) (fun c12 => ?_) (fun c12 => ?_)
    · skip
      have hend := bI_f c12
      have hA : aLitB T c (nI p) y = false := by unfold aLitB; rw [hend, Bool.and_false, Bool.false_and]
      refine GV.iconst (v := 0) dX11_light_27 (by decide) ?_
      refine GV.zret .boolean dX11_light_28 rfl (rfl) ?_
      refine ⟨by rw [hA]; rfl, ?_⟩
      unfold aLitC aLitU
      rw [if_neg (by rw [hA]; decide), if_neg (by rw [hA]; decide)]
    · skip
      have hend := bI_t c12
      obtain ⟨e, rfl, he⟩ := end_of hend
      refine GV.aload_n dX11_light_15 rfl ?_
      refine GV.getf okX11 5 (fun h H => H.aown.1) fl_X11_35 dX11_light_16 (by decide) rfl ?_
      refine GV.iload_n dX11_light_19 rfl ?_
      refine GV.iload_n dX11_light_20 rfl ?_
      refine GV.cV2 (ci := 0) yoX0_canBeLit ml_X11_255 im_X0_canBeLit se_X0_canBeLit dX11_light_21 rfl (fun h H => H.ac.1) (Nat.le_of_ble_eq_true rfl) (by omega) rfl (Nat.le_of_ble_eq_true rfl) (GV.rd (fun h H => canBeLit_V (by omega) H.ac hp6)) (GV.rdK ?_)
      refine GV.if_ne 29 dX11_light_24 (by decide) (fun c24 => ?_) (fun c24 => ?_)
      · skip
        have hcan := bI_t c24
        have hA : aLitB T c (nI p) (nI e) = true := by unfold aLitB; rw [hman, hend, hnp, hcan]; rfl
        refine GV.aload_n dX11_light_29 rfl ?_
        refine GV.getf okX11 10 (fun h H => H.aown.1) fl_X11_55 dX11_light_30 (by decide) rfl ?_
        refine GV.aload_n dX11_light_33 rfl ?_
        refine GV.getf okX11 5 (fun h H => H.aown.1) fl_X11_35 dX11_light_34 (by decide) rfl ?_
        refine GV.iload_n dX11_light_37 rfl ?_
        refine GV.cV2 (ci := 10) yoX10_put ml_X11_258 im_X10_put se_X10_put dX11_light_38 rfl (fun h H => H.au.1) (Nat.le_of_ble_eq_true rfl) (by omega) rfl (Nat.le_of_ble_eq_true rfl) (GV.up (fun h H => uPut_V (z := nat (u.1 0)) (by omega) H.au H.ac hu.1 (by have := hu.2; omega) hp6 (by omega)) (fun h v h' H q => ⟨q.1, H.wu q.2.1 q.2.2⟩)) (GV.wrK ?_)
        refine GV.aload_n dX11_light_41 rfl ?_
        refine GV.getf okX11 5 (fun h H => H.aown.1) fl_X11_35 dX11_light_42 (by decide) rfl ?_
        refine GV.getf okX0 5 (fun h H => H.ac.1) fl_X11_144 dX11_light_45 (by decide) rfl ?_
        refine GV.iload_n dX11_light_48 rfl ?_
        refine GV.dup2 dX11_light_49 rfl rfl ?_
        refine GV.ald (fun h H => C0_r5 H.ac) dX11_light_50 (rfl) (hp6) (by decide) ?_
        refine GV.iconst (v := 1) dX11_light_51 (by decide) ?_
        refine GV.iload_n dX11_light_52 rfl ?_
        refine GV.ishl dX11_light_53 ?_
        refine GV.ior dX11_light_54 ?_
        refine GV.ast (fun h H => C0_r5 H.ac) dX11_light_55 (rfl) (hp6) (by decide) (fun h h' H e o => H.wc (isR.setA C0_ok H.ac C0_in5 (by decide) _ _ e o) (fun b hb => o b (by omega))) ?_
        refine GV.iconst (v := 1) dX11_light_56 (by decide) ?_
        refine GV.zret .boolean dX11_light_57 rfl (rfl) ?_
        refine ⟨by rw [hA]; rfl, ?_⟩
        unfold aLitC aLitU
        rw [if_pos hA, if_pos hA, hnp]
        rfl
      · skip
        have hcan := bI_f c24
        have hA : aLitB T c (nI p) (nI e) = false := by unfold aLitB; rw [hnp, hcan, Bool.and_false]
        refine GV.iconst (v := 0) dX11_light_27 (by decide) ?_
        refine GV.zret .boolean dX11_light_28 rfl (rfl) ?_
        refine ⟨by rw [hA]; rfl, ?_⟩
        unfold aLitC aLitU
        rw [if_neg (by rw [hA]; decide), if_neg (by rw [hA]; decide)]
set_option maxRecDepth 100000 in
set_option maxHeartbeats 1000000 in
theorem blow_F {d n0 z : Nat} {κ : Kd} {h0 : Hp} (hd : 3 ≤ d) {s : St} {T T2 : Tx} {c g th u F k pa tu rd tk : St} {x y : Int32} (hw : wfT T) (hu : okN (u.1 0) 21) : GV (IB z h0) MX11_blow (d, 0, 0, n0, κ) (mkF s T T2 c g th u F k pa tu rd tk) 0 [some (.ref z), some (.int (x)), some (.int (y))] [] (gW (some (.int (bI (aBlwB T c x y)))) (mkF s T T2 (aBlwC T c x y) g th (aBlwU T c u x y) F k pa tu rd tk)) := by
  refine GV.aload_n dX11_blow_0 rfl ?_
  refine GV.iload_n dX11_blow_1 rfl ?_
  refine GV.cV1 (ci := 11) yoX11_isPerson ml_X11_120 im_X11_isPerson se_X11_isPerson dX11_blow_2 rfl (fun h H => H.aown.1) (Nat.le_of_ble_eq_true rfl) (by omega) rfl (Nat.le_of_ble_eq_true rfl) (isPerson_F (by omega)) (GV.rdK ?_)
  refine GV.if_eq 27 dX11_blow_5 (by decide) (fun c5 => ?_) (fun c5 => ?_)
  · skip
    have hno := bI_f c5
    have hA : aBlwB T c x y = false := by unfold aBlwB; rw [hno]; rfl
    refine GV.iconst (v := 0) dX11_blow_27 (by decide) ?_
    refine GV.zret .boolean dX11_blow_28 rfl (rfl) ?_
    refine ⟨by rw [hA]; rfl, ?_⟩
    unfold aBlwC aBlwU
    rw [if_neg (by rw [hA]; decide), if_neg (by rw [hA]; decide)]
  · skip
    have hman := bI_t c5
    obtain ⟨p, rfl, hpn, hp6, hnp⟩ := man_of hw hman
    refine GV.iload_n dX11_blow_8 rfl ?_
    refine GV.cS1 yoX11_isEnd ml_X11_252 st_X11_isEnd dX11_blow_9 (Nat.le_of_ble_eq_true rfl) (by omega) rfl (Nat.le_of_ble_eq_true rfl) (GV.rd (fun _ _ => isEnd_V (by omega))) (GV.rdK ?_)
    refine GV.if_eq 27 dX11_blow_12 (by decide) (fun c12 => ?_) (fun c12 => ?_)
    · skip
      have hend := bI_f c12
      have hA : aBlwB T c (nI p) y = false := by unfold aBlwB; rw [hend, Bool.and_false, Bool.false_and]
      refine GV.iconst (v := 0) dX11_blow_27 (by decide) ?_
      refine GV.zret .boolean dX11_blow_28 rfl (rfl) ?_
      refine ⟨by rw [hA]; rfl, ?_⟩
      unfold aBlwC aBlwU
      rw [if_neg (by rw [hA]; decide), if_neg (by rw [hA]; decide)]
    · skip
      have hend := bI_t c12
      obtain ⟨e, rfl, he⟩ := end_of hend
      refine GV.aload_n dX11_blow_15 rfl ?_
      refine GV.getf okX11 5 (fun h H => H.aown.1) fl_X11_35 dX11_blow_16 (by decide) rfl ?_
      refine GV.iload_n dX11_blow_19 rfl ?_
      refine GV.iload_n dX11_blow_20 rfl ?_
      refine GV.cV2 (ci := 0) yoX0_isLit ml_X11_262 im_X0_isLit se_X0_isLit dX11_blow_21 rfl (fun h H => H.ac.1) (Nat.le_of_ble_eq_true rfl) (by omega) rfl (Nat.le_of_ble_eq_true rfl) (GV.rd (fun h H => isLit_V (by omega) H.ac hp6)) (GV.rdK ?_)
      refine GV.if_ne 29 dX11_blow_24 (by decide) (fun c24 => ?_) (fun c24 => ?_)
      · skip
        have hcan := bI_t c24
        have hA : aBlwB T c (nI p) (nI e) = true := by unfold aBlwB; rw [hman, hend, hnp, hcan]; rfl
        refine GV.aload_n dX11_blow_29 rfl ?_
        refine GV.getf okX11 10 (fun h H => H.aown.1) fl_X11_55 dX11_blow_30 (by decide) rfl ?_
        refine GV.aload_n dX11_blow_33 rfl ?_
        refine GV.getf okX11 5 (fun h H => H.aown.1) fl_X11_35 dX11_blow_34 (by decide) rfl ?_
        refine GV.iload_n dX11_blow_37 rfl ?_
        refine GV.cV2 (ci := 10) yoX10_put ml_X11_258 im_X10_put se_X10_put dX11_blow_38 rfl (fun h H => H.au.1) (Nat.le_of_ble_eq_true rfl) (by omega) rfl (Nat.le_of_ble_eq_true rfl) (GV.up (fun h H => uPut_V (z := nat (u.1 0)) (by omega) H.au H.ac hu.1 (by have := hu.2; omega) hp6 (by omega)) (fun h v h' H q => ⟨q.1, H.wu q.2.1 q.2.2⟩)) (GV.wrK ?_)
        refine GV.aload_n dX11_blow_41 rfl ?_
        refine GV.getf okX11 5 (fun h H => H.aown.1) fl_X11_35 dX11_blow_42 (by decide) rfl ?_
        refine GV.getf okX0 5 (fun h H => H.ac.1) fl_X11_144 dX11_blow_45 (by decide) rfl ?_
        refine GV.iload_n dX11_blow_48 rfl ?_
        refine GV.dup2 dX11_blow_49 rfl rfl ?_
        refine GV.ald (fun h H => C0_r5 H.ac) dX11_blow_50 (rfl) (hp6) (by decide) ?_
        refine GV.iconst (v := 1) dX11_blow_51 (by decide) ?_
        refine GV.iload_n dX11_blow_52 rfl ?_
        refine GV.ishl dX11_blow_53 ?_
        refine GV.iconst (v := (-1)) dX11_blow_54 (by decide) ?_
        refine GV.ixor dX11_blow_55 ?_
        refine GV.iand dX11_blow_56 ?_
        refine GV.ast (fun h H => C0_r5 H.ac) dX11_blow_57 (rfl) (hp6) (by decide) (fun h h' H e o => H.wc (isR.setA C0_ok H.ac C0_in5 (by decide) _ _ e o) (fun b hb => o b (by omega))) ?_
        refine GV.iconst (v := 1) dX11_blow_58 (by decide) ?_
        refine GV.zret .boolean dX11_blow_59 rfl (rfl) ?_
        refine ⟨by rw [hA]; rfl, ?_⟩
        unfold aBlwC aBlwU
        rw [if_pos hA, if_pos hA, hnp]
        rfl
      · skip
        have hcan := bI_f c24
        have hA : aBlwB T c (nI p) (nI e) = false := by unfold aBlwB; rw [hnp, hcan, Bool.and_false]
        refine GV.iconst (v := 0) dX11_blow_27 (by decide) ?_
        refine GV.zret .boolean dX11_blow_28 rfl (rfl) ?_
        refine ⟨by rw [hA]; rfl, ?_⟩
        unfold aBlwC aBlwU
        rw [if_neg (by rw [hA]; decide), if_neg (by rw [hA]; decide)]
set_option maxRecDepth 100000 in
set_option maxHeartbeats 1000000 in
theorem cut_F {d n0 z : Nat} {κ : Kd} {h0 : Hp} (hd : 4 ≤ d) {s : St} {T T2 : Tx} {c g th u F k pa tu rd tk : St} {x y w : Int32} (hw : wfT T) (hu : okN (u.1 0) 21) : GV (IB z h0) MX11_cut (d, 0, 0, n0, κ) (mkF s T T2 c g th u F k pa tu rd tk) 0 [some (.ref z), some (.int (x)), some (.int (y)), some (.int (w))] [] (gW (some (.int (aCutV T c x y w))) (mkF s T T2 (aCutC T c x y w) g th (aCutU T c u x y w) F k pa tu rd tk)) := by
  refine GV.aload_n dX11_cut_0 rfl ?_
  refine GV.iload_n dX11_cut_1 rfl ?_
  refine GV.cV1 (ci := 11) yoX11_isPerson ml_X11_120 im_X11_isPerson se_X11_isPerson dX11_cut_2 rfl (fun h H => H.aown.1) (Nat.le_of_ble_eq_true rfl) (by omega) rfl (Nat.le_of_ble_eq_true rfl) (isPerson_F (by omega)) (GV.rdK ?_)
  refine GV.if_eq 26 dX11_cut_5 (by decide) (fun c5 => ?_) (fun c5 => ?_)
  · skip
    have hno := bI_f c5
    have hA : aCutN T x y w = false := by unfold aCutN; rw [hno]; rfl
    refine GV.iconst (v := (-1)) dX11_cut_26 (by decide) ?_
    refine GV.iret dX11_cut_27 rfl ?_
    refine ⟨by unfold aCutV; rw [if_neg (by rw [hA]; decide)], ?_⟩
    unfold aCutC aCutU aCutB
    rw [hA, Bool.false_and, if_neg (by decide), if_neg (by decide)]
  · skip
    have hman := bI_t c5
    obtain ⟨p, rfl, hpn, hp6, hnp⟩ := man_of hw hman
    refine GV.iload_n dX11_cut_8 rfl ?_
    refine GV.cS1 yoX11_isEnd ml_X11_252 st_X11_isEnd dX11_cut_9 (Nat.le_of_ble_eq_true rfl) (by omega) rfl (Nat.le_of_ble_eq_true rfl) (GV.rd (fun _ _ => isEnd_V (by omega))) (GV.rdK ?_)
    refine GV.if_eq 26 dX11_cut_12 (by decide) (fun c12 => ?_) (fun c12 => ?_)
    · skip
      have hend := bI_f c12
      have hA : aCutN T (nI p) y w = false := by unfold aCutN; rw [hend, Bool.and_false]; rfl
      refine GV.iconst (v := (-1)) dX11_cut_26 (by decide) ?_
      refine GV.iret dX11_cut_27 rfl ?_
      refine ⟨by unfold aCutV; rw [if_neg (by rw [hA]; decide)], ?_⟩
      unfold aCutC aCutU aCutB
      rw [hA, Bool.false_and, if_neg (by decide), if_neg (by decide)]
    · skip
      have hend := bI_t c12
      obtain ⟨e, rfl, he⟩ := end_of hend
      refine GV.iload_n dX11_cut_15 rfl ?_
      refine GV.iconst (v := 1) dX11_cut_16 (by decide) ?_
      refine GV.icmp_lt 26 dX11_cut_17 (by decide) (fun c17 => ?_) (fun c17 => ?_)
      · skip
        have hA : aCutN T (nI p) (nI e) w = false := by unfold aCutN; rw [decide_eq_false (fun z => z c17), Bool.and_false]; rfl
        refine GV.iconst (v := (-1)) dX11_cut_26 (by decide) ?_
        refine GV.iret dX11_cut_27 rfl ?_
        refine ⟨by unfold aCutV; rw [if_neg (by rw [hA]; decide)], ?_⟩
        unfold aCutC aCutU aCutB
        rw [hA, Bool.false_and, if_neg (by decide), if_neg (by decide)]
      · skip
        refine GV.iload_n dX11_cut_20 rfl ?_
        refine GV.bipush (v := 60) dX11_cut_21 (by decide) ?_
        refine GV.icmp_le 28 dX11_cut_23 (by decide) (fun c23 => ?_) (fun c23 => ?_)
        · skip
          have h60 : ¬ 60 < w := Int32.not_lt.mpr c23
          have hA : aCutN T (nI p) (nI e) w = true := by unfold aCutN; rw [hman, hend, decide_eq_true c17, decide_eq_true h60]; rfl
          refine GV.iload_n dX11_cut_28 rfl ?_
          refine GV.aload_n dX11_cut_29 rfl ?_
          refine GV.getf okX11 5 (fun h H => H.aown.1) fl_X11_35 dX11_cut_30 (by decide) rfl ?_
          refine GV.iload_n dX11_cut_33 rfl ?_
          refine GV.cV1 (ci := 0) yoX0_leftOf ml_X11_131 im_X0_leftOf se_X0_leftOf dX11_cut_34 rfl (fun h H => H.ac.1) (Nat.le_of_ble_eq_true rfl) (by omega) rfl (Nat.le_of_ble_eq_true rfl) (GV.rd (fun h H => leftOf_V (by omega) H.ac hp6)) (GV.rdK ?_)
          refine GV.icmp_le 43 dX11_cut_37 (by decide) (fun c37 => ?_) (fun c37 => ?_)
          · skip
            have hl : ¬ cLeft c p < w := Int32.not_lt.mpr c37
            have hB : aCutB T c (nI p) (nI e) w = true := by unfold aCutB; rw [hA, hnp, decide_eq_true hl]; rfl
            refine GV.aload_n dX11_cut_43 rfl ?_
            refine GV.getf okX11 10 (fun h H => H.aown.1) fl_X11_55 dX11_cut_44 (by decide) rfl ?_
            refine GV.aload_n dX11_cut_47 rfl ?_
            refine GV.getf okX11 5 (fun h H => H.aown.1) fl_X11_35 dX11_cut_48 (by decide) rfl ?_
            refine GV.iload_n dX11_cut_51 rfl ?_
            refine GV.cV2 (ci := 10) yoX10_put ml_X11_258 im_X10_put se_X10_put dX11_cut_52 rfl (fun h H => H.au.1) (Nat.le_of_ble_eq_true rfl) (by omega) rfl (Nat.le_of_ble_eq_true rfl) (GV.up (fun h H => uPut_V (z := nat (u.1 0)) (by omega) H.au H.ac hu.1 (by have := hu.2; omega) hp6 (by omega)) (fun h v h' H q => ⟨q.1, H.wu q.2.1 q.2.2⟩)) (GV.wrK ?_)
            refine GV.aload_n dX11_cut_55 rfl ?_
            refine GV.getf okX11 5 (fun h H => H.aown.1) fl_X11_35 dX11_cut_56 (by decide) rfl ?_
            refine GV.iload_n dX11_cut_59 rfl ?_
            refine GV.iload_n dX11_cut_60 rfl ?_
            refine GV.iload_n dX11_cut_61 rfl ?_
            refine GV.cV3 (ci := 0) yoX0_shorten ml_X11_265 im_X0_shorten se_X0_shorten dX11_cut_62 rfl (fun h H => H.ac.1) (Nat.le_of_ble_eq_true rfl) (by omega) rfl (Nat.le_of_ble_eq_true rfl) (GV.up (fun h H => shorten_V (by omega) H.ac hp6) (fun h v h' H q => ⟨q.1, H.wc q.2.1 q.2.2⟩)) (GV.wrK ?_)
            refine GV.aload_n dX11_cut_65 rfl ?_
            refine GV.getf okX11 5 (fun h H => H.aown.1) fl_X11_35 dX11_cut_66 (by decide) rfl ?_
            refine GV.iload_n dX11_cut_69 rfl ?_
            refine GV.cV1 (ci := 0) yoX0_leftOf ml_X11_131 im_X0_leftOf se_X0_leftOf dX11_cut_70 rfl (fun h H => H.ac.1) (Nat.le_of_ble_eq_true rfl) (by omega) rfl (Nat.le_of_ble_eq_true rfl) (GV.rd (fun h H => leftOf_V (by omega) H.ac hp6)) (GV.rdK ?_)
            refine GV.iret dX11_cut_73 rfl ?_
            refine ⟨by unfold aCutV; rw [if_pos hA, hnp, if_neg hl], ?_⟩
            unfold aCutC aCutU
            rw [if_pos hB, if_pos hB, hnp]
          · skip
            have hl : cLeft c p < w := Int32.not_le.mp c37
            have hB : aCutB T c (nI p) (nI e) w = false := by unfold aCutB; rw [hnp, decide_eq_false (fun z => z hl), Bool.and_false]
            refine GV.bipush (v := (-2)) dX11_cut_40 (by decide) ?_
            refine GV.iret dX11_cut_42 rfl ?_
            refine ⟨by unfold aCutV; rw [if_pos hA, hnp, if_pos hl], ?_⟩
            unfold aCutC aCutU
            rw [if_neg (by rw [hB]; decide), if_neg (by rw [hB]; decide)]
        · skip
          have h60 : 60 < w := Int32.not_le.mp c23
          have hA : aCutN T (nI p) (nI e) w = false := by unfold aCutN; rw [decide_eq_false (p := ¬ 60 < w) (fun z => z h60), Bool.and_false]
          refine GV.iconst (v := (-1)) dX11_cut_26 (by decide) ?_
          refine GV.iret dX11_cut_27 rfl ?_
          refine ⟨by unfold aCutV; rw [if_neg (by rw [hA]; decide)], ?_⟩
          unfold aCutC aCutU aCutB
          rw [hA, Bool.false_and, if_neg (by decide), if_neg (by decide)]
set_option maxRecDepth 100000 in
set_option maxHeartbeats 1000000 in
theorem undo_F {d n0 z : Nat} {κ : Kd} {h0 : Hp} (hd : 2 ≤ d) {s : St} {T T2 : Tx} {c g th u F k pa tu rd tk : St} (hu : okN (u.1 0) 21) {N : Nat} (hN : N ≤ 6) (hm : ∀ j, j < nat (u.1 0) → okN (u.2.1 1 j) N) : GV (IB z h0) MX11_undo (d, 0, 0, n0, κ) (mkF s T T2 c g th u F k pa tu rd tk) 0 [some (.ref z)] [] (gW (some (.int (aUndV u))) (mkF s T T2 (aUndC u c) g th (aUndU u) F k pa tu rd tk)) := by
  refine GV.aload_n dX11_undo_0 rfl ?_
  refine GV.getf okX11 10 (fun h H => H.aown.1) fl_X11_55 dX11_undo_1 (by decide) rfl ?_
  refine GV.getf okX10 0 (fun h H => H.au.1) fl_X11_241 dX11_undo_4 (by decide) rfl ?_
  refine GV.if_ne 12 dX11_undo_7 (by decide) (fun c7 => ?_) (fun c7 => ?_)
  · skip
    obtain ⟨zz, hzz⟩ : ∃ zz, nat (u.1 0) = zz + 1 := ⟨nat (u.1 0) - 1, by have : ¬ nat (u.1 0) = 0 := fun z => c7 (by rw [hu.1, z]; rfl); omega⟩
    have hn : nat (u.1 0) - 1 = zz := by omega
    refine GV.aload_n dX11_undo_12 rfl ?_
    refine GV.getf okX11 10 (fun h H => H.aown.1) fl_X11_55 dX11_undo_13 (by decide) rfl ?_
    refine GV.aload_n dX11_undo_16 rfl ?_
    refine GV.getf okX11 5 (fun h H => H.aown.1) fl_X11_35 dX11_undo_17 (by decide) rfl ?_
    refine GV.cV1 (ci := 10) yoX10_takeBack ml_X11_276 im_X10_takeBack se_X10_takeBack dX11_undo_20 rfl (fun h H => H.au.1) (Nat.le_of_ble_eq_true rfl) (by omega) rfl (Nat.le_of_ble_eq_true rfl) (GV.up (fun h H => uPop_V (z := zz) (p := nat (u.2.1 1 zz)) (by omega) H.au H.ac (by rw [hu.1, hzz]) (by have := hu.2; omega) (hm zz (by omega)).1 (by have := (hm zz (by omega)).2; omega) (by omega)) (fun h v h' H q => ⟨q.1, H.wcu q.2.2.1 q.2.1 q.2.2.2⟩)) (GV.wrK ?_)
    refine GV.aload_n dX11_undo_23 rfl ?_
    refine GV.getf okX11 10 (fun h H => H.aown.1) fl_X11_55 dX11_undo_24 (by decide) rfl ?_
    refine GV.getf okX10 0 (fun h H => H.au.1) fl_X11_241 dX11_undo_27 (by decide) rfl ?_
    refine GV.iret dX11_undo_30 rfl ?_
    refine ⟨by unfold aUndV; rw [if_neg c7, hn]; rfl, ?_⟩
    unfold aUndC aUndU
    rw [if_neg c7, if_neg c7, hn]
  · skip
    refine GV.iconst (v := (-1)) dX11_undo_10 (by decide) ?_
    refine GV.iret dX11_undo_11 rfl ?_
    refine ⟨by unfold aUndV; rw [if_pos c7], ?_⟩
    unfold aUndC aUndU
    rw [if_pos c7, if_pos c7]
set_option maxRecDepth 100000 in
set_option maxHeartbeats 1000000 in
theorem keep_F {d n0 z : Nat} {κ : Kd} {h0 : Hp} (hd : 3 ≤ d) {s : St} {T T2 : Tx} {c g th u F k pa tu rd tk : St}  : GV (IB z h0) MX11_keep (d, 0, 0, n0, κ) (mkF s T T2 c g th u F k pa tu rd tk) 0 [some (.ref z)] [] (gW (some (.int (c.1 7))) (mkF (upd s.1 7 1, s.2.1, s.2.2.1, s.2.2.2) T T2 c (cCopy g c) th u F k pa tu rd tk)) := by
  refine GV.aload_n dX11_keep_0 rfl ?_
  refine GV.getf okX11 6 (fun h H => H.aown.1) fl_X11_39 dX11_keep_1 (by decide) rfl ?_
  refine GV.aload_n dX11_keep_4 rfl ?_
  refine GV.getf okX11 5 (fun h H => H.aown.1) fl_X11_35 dX11_keep_5 (by decide) rfl ?_
  refine GV.cV1 (ci := 0) yoX0_copy ml_X11_280 im_X0_copy se_X0_copy dX11_keep_8 rfl (fun h H => H.ag.1) (Nat.le_of_ble_eq_true rfl) (by omega) rfl (Nat.le_of_ble_eq_true rfl) (GV.up (fun h H => copy_V (by omega) H.ag H.ac (by omega)) (fun h v h' H q => ⟨q.1, H.wg q.2.1 q.2.2⟩)) (GV.wrK ?_)
  refine GV.aload_n dX11_keep_11 rfl ?_
  refine GV.iconst (v := 1) dX11_keep_12 (by decide) ?_
  refine GV.putf okX11 7 (fun h H => H.aown.1) fl_X11_102 dX11_keep_13 (by decide) rfl (rfl) (rfl) (Nat.le_of_ble_eq_true rfl) (fun h h' H e o => H.ws (isR.setI C11_ok H.aown 7 _ (fun _ _ => rfl) e o) rfl rfl (fun b hb => o b (by omega))) ?_
  refine GV.aload_n dX11_keep_16 rfl ?_
  refine GV.getf okX11 5 (fun h H => H.aown.1) fl_X11_35 dX11_keep_17 (by decide) rfl ?_
  refine GV.getf okX0 7 (fun h H => H.ac.1) fl_X11_215 dX11_keep_20 (by decide) rfl ?_
  refine GV.iret dX11_keep_23 rfl ?_
  exact ⟨rfl, rfl⟩
set_option maxRecDepth 100000 in
set_option maxHeartbeats 1000000 in
theorem back_F {d n0 z : Nat} {κ : Kd} {h0 : Hp} (hd : 3 ≤ d) {s : St} {T T2 : Tx} {c g th u F k pa tu rd tk : St} {hi : Bool} (hh : s.1 7 = bI hi) : GV (IB z h0) MX11_back (d, 0, 0, n0, κ) (mkF s T T2 c g th u F k pa tu rd tk) 0 [some (.ref z)] [] (gW (some (.int (aBackV g hi))) (mkF s T T2 (aBackC c g hi) g th (aBackU u hi) F k pa tu rd tk)) := by
  refine GV.aload_n dX11_back_0 rfl ?_
  refine GV.getf okX11 7 (fun h H => H.aown.1) fl_X11_102 dX11_back_1 (by decide) rfl ?_
  refine GV.if_ne 9 dX11_back_4 (by decide) (fun c4 => ?_) (fun c4 => ?_)
  · skip
    have hi1 : hi = true := bI_t (fun z => c4 (hh.trans z))
    refine GV.aload_n dX11_back_9 rfl ?_
    refine GV.getf okX11 5 (fun h H => H.aown.1) fl_X11_35 dX11_back_10 (by decide) rfl ?_
    refine GV.aload_n dX11_back_13 rfl ?_
    refine GV.getf okX11 6 (fun h H => H.aown.1) fl_X11_39 dX11_back_14 (by decide) rfl ?_
    refine GV.cV1 (ci := 0) yoX0_copy ml_X11_280 im_X0_copy se_X0_copy dX11_back_17 rfl (fun h H => H.ac.1) (Nat.le_of_ble_eq_true rfl) (by omega) rfl (Nat.le_of_ble_eq_true rfl) (GV.up (fun h H => copy_V (by omega) H.ac H.ag (by omega)) (fun h v h' H q => ⟨q.1, H.wc q.2.1 q.2.2⟩)) (GV.wrK ?_)
    refine GV.aload_n dX11_back_20 rfl ?_
    refine GV.getf okX11 10 (fun h H => H.aown.1) fl_X11_55 dX11_back_21 (by decide) rfl ?_
    refine GV.cV0 (ci := 10) yoX10_forget ml_X11_106 im_X10_forget se_X10_forget dX11_back_24 rfl (fun h H => H.au.1) (Nat.le_of_ble_eq_true rfl) (by omega) rfl (Nat.le_of_ble_eq_true rfl) (GV.up (fun h H => uZero_V (by omega) H.au) (fun h v h' H q => ⟨q.1, H.wu q.2.1 q.2.2⟩)) (GV.wrK ?_)
    refine GV.aload_n dX11_back_27 rfl ?_
    refine GV.getf okX11 5 (fun h H => H.aown.1) fl_X11_35 dX11_back_28 (by decide) rfl ?_
    refine GV.getf okX0 7 (fun h H => H.ac.1) fl_X11_215 dX11_back_31 (by decide) rfl ?_
    refine GV.iret dX11_back_34 rfl ?_
    rw [hi1]
    exact ⟨rfl, rfl⟩
  · skip
    have hi1 : hi = false := bI_f (hh.symm.trans c4)
    refine GV.iconst (v := (-1)) dX11_back_7 (by decide) ?_
    refine GV.iret dX11_back_8 rfl ?_
    rw [hi1]
    exact ⟨rfl, rfl⟩
set_option maxRecDepth 100000 in
set_option maxHeartbeats 1000000 in
theorem see0_F {d n0 z : Nat} {κ : Kd} {h0 : Hp} (hd : 2 ≤ d) {s : St} {T T2 : Tx} {c g th u F k pa tu rd tk : St} {x y w : Int32} {b : Bool} (hw : wfT T) (hF : okN (F.1 0) 25) (h24 : F.1 0 = nI 24) : GV (IB z h0) MX11_see (d, 0, 0, n0, κ) (mkF s T T2 c g th u F k pa tu rd tk) 0 [some (.ref z), some (.int (x)), some (.int (y)), some (.int (w)), some (.int (bI b))] [] (gW (some (.int (aSeeV T F x y w))) (mkF s T T2 c g th u (aSeeF T F x y w b) k pa tu rd tk)) := by
  refine GV.iload_n dX11_see_0 rfl ?_
  refine GV.iconst (v := 1) dX11_see_1 (by decide) ?_
  refine GV.icmp_lt 26 dX11_see_2 (by decide) (fun c2 => ?_) (fun c2 => ?_)
  · skip
    have hA : aSeeB T F x y w = false := by unfold aSeeB; rw [decide_eq_false (fun z => z c2)]; rfl
    refine GV.iconst (v := (-1)) dX11_see_26 (by decide) ?_
    refine GV.iret dX11_see_27 rfl ?_
    refine ⟨by unfold aSeeV; rw [if_neg (by rw [hA]; decide)], ?_⟩
    unfold aSeeF
    rw [if_neg (by rw [hA]; decide)]
  · skip
    refine GV.iload_n dX11_see_5 rfl ?_
    refine GV.bipush (v := 60) dX11_see_6 (by decide) ?_
    refine GV.icmp_gt 26 dX11_see_8 (by decide) (fun c8 => ?_) (fun c8 => ?_)
    · skip
      have hA : aSeeB T F x y w = false := by unfold aSeeB; rw [decide_eq_false (p := ¬ 60 < x) (fun z => z c8), Bool.and_false]; rfl
      refine GV.iconst (v := (-1)) dX11_see_26 (by decide) ?_
      refine GV.iret dX11_see_27 rfl ?_
      refine ⟨by unfold aSeeV; rw [if_neg (by rw [hA]; decide)], ?_⟩
      unfold aSeeF
      rw [if_neg (by rw [hA]; decide)]
    · skip
      refine GV.aload_n dX11_see_11 rfl ?_
      refine GV.iload_n dX11_see_12 rfl ?_
      refine GV.cV1 (ci := 11) yoX11_isPerson ml_X11_120 im_X11_isPerson se_X11_isPerson dX11_see_13 rfl (fun h H => H.aown.1) (Nat.le_of_ble_eq_true rfl) (by omega) rfl (Nat.le_of_ble_eq_true rfl) (isPerson_F (by omega)) (GV.rdK ?_)
      refine GV.if_eq 26 dX11_see_16 (by decide) (fun c16 => ?_) (fun c16 => ?_)
      · skip
        have hno := bI_f c16
        have hA : aSeeB T F x y w = false := by unfold aSeeB; rw [hno, Bool.and_false]; rfl
        refine GV.iconst (v := (-1)) dX11_see_26 (by decide) ?_
        refine GV.iret dX11_see_27 rfl ?_
        refine ⟨by unfold aSeeV; rw [if_neg (by rw [hA]; decide)], ?_⟩
        unfold aSeeF
        rw [if_neg (by rw [hA]; decide)]
      · skip
        have hman := bI_t c16
        refine GV.iload_n dX11_see_19 rfl ?_
        refine GV.cS1 yoX11_isInch ml_X11_161 st_X11_isInch dX11_see_20 (Nat.le_of_ble_eq_true rfl) (by omega) rfl (Nat.le_of_ble_eq_true rfl) (GV.rd (fun _ _ => isInch_V (by omega))) (GV.rdK ?_)
        refine GV.if_ne 28 dX11_see_23 (by decide) (fun c23 => ?_) (fun c23 => ?_)
        · skip
          have hin := bI_t c23
          refine GV.aload_n dX11_see_28 rfl ?_
          refine GV.getf okX11 11 (fun h H => H.aown.1) fl_X11_62 dX11_see_29 (by decide) rfl ?_
          refine GV.iload_n dX11_see_32 rfl ?_
          refine GV.iload_n dX11_see_33 rfl ?_
          refine GV.iload_n dX11_see_34 rfl ?_
          refine GV.iload dX11_see_35 rfl ?_
          refine GV.cV4 (ci := 3) yoX3_add ml_X11_372 im_X3_add se_X3_add dX11_see_37 rfl (fun h H => H.aF.1) (Nat.le_of_ble_eq_true rfl) (by omega) rfl (Nat.le_of_ble_eq_true rfl) (GV.rd (fun h H => fFull_V (by omega) H.aF h24)) (GV.rdK ?_)
          refine GV.iret dX11_see_40 rfl ?_
          have hA : aSeeB T F x y w = false := by unfold aSeeB; rw [decide_eq_false (p := ¬ F.1 0 = 24) (fun z => z h24), Bool.and_false]
          refine ⟨by unfold aSeeV; rw [if_neg (by rw [hA]; decide)], ?_⟩
          unfold aSeeF
          rw [if_neg (by rw [hA]; decide)]
        · skip
          have hin := bI_f c23
          have hA : aSeeB T F x y w = false := by unfold aSeeB; rw [hin, Bool.and_false]; rfl
          refine GV.iconst (v := (-1)) dX11_see_26 (by decide) ?_
          refine GV.iret dX11_see_27 rfl ?_
          refine ⟨by unfold aSeeV; rw [if_neg (by rw [hA]; decide)], ?_⟩
          unfold aSeeF
          rw [if_neg (by rw [hA]; decide)]
set_option maxRecDepth 100000 in
set_option maxHeartbeats 1000000 in
theorem see1_F {d n0 z : Nat} {κ : Kd} {h0 : Hp} (hd : 2 ≤ d) {s : St} {T T2 : Tx} {c g th u F k pa tu rd tk : St} {x y w : Int32} {b : Bool} (hw : wfT T) (hF : okN (F.1 0) 25) (h24 : ¬ F.1 0 = nI 24) : GV (IB z h0) MX11_see (d, 0, 0, n0, κ) (mkF s T T2 c g th u F k pa tu rd tk) 0 [some (.ref z), some (.int (x)), some (.int (y)), some (.int (w)), some (.int (bI b))] [] (gW (some (.int (aSeeV T F x y w))) (mkF s T T2 c g th u (aSeeF T F x y w b) k pa tu rd tk)) := by
  have h24b : nat (F.1 0) < 24 := by
    have := hF.2
    have h : ¬ nat (F.1 0) = 24 := fun z => h24 (by rw [hF.1, z])
    omega
  refine GV.iload_n dX11_see_0 rfl ?_
  refine GV.iconst (v := 1) dX11_see_1 (by decide) ?_
  refine GV.icmp_lt 26 dX11_see_2 (by decide) (fun c2 => ?_) (fun c2 => ?_)
  · skip
    have hA : aSeeB T F x y w = false := by unfold aSeeB; rw [decide_eq_false (fun z => z c2)]; rfl
    refine GV.iconst (v := (-1)) dX11_see_26 (by decide) ?_
    refine GV.iret dX11_see_27 rfl ?_
    refine ⟨by unfold aSeeV; rw [if_neg (by rw [hA]; decide)], ?_⟩
    unfold aSeeF
    rw [if_neg (by rw [hA]; decide)]
  · skip
    refine GV.iload_n dX11_see_5 rfl ?_
    refine GV.bipush (v := 60) dX11_see_6 (by decide) ?_
    refine GV.icmp_gt 26 dX11_see_8 (by decide) (fun c8 => ?_) (fun c8 => ?_)
    · skip
      have hA : aSeeB T F x y w = false := by unfold aSeeB; rw [decide_eq_false (p := ¬ 60 < x) (fun z => z c8), Bool.and_false]; rfl
      refine GV.iconst (v := (-1)) dX11_see_26 (by decide) ?_
      refine GV.iret dX11_see_27 rfl ?_
      refine ⟨by unfold aSeeV; rw [if_neg (by rw [hA]; decide)], ?_⟩
      unfold aSeeF
      rw [if_neg (by rw [hA]; decide)]
    · skip
      refine GV.aload_n dX11_see_11 rfl ?_
      refine GV.iload_n dX11_see_12 rfl ?_
      refine GV.cV1 (ci := 11) yoX11_isPerson ml_X11_120 im_X11_isPerson se_X11_isPerson dX11_see_13 rfl (fun h H => H.aown.1) (Nat.le_of_ble_eq_true rfl) (by omega) rfl (Nat.le_of_ble_eq_true rfl) (isPerson_F (by omega)) (GV.rdK ?_)
      refine GV.if_eq 26 dX11_see_16 (by decide) (fun c16 => ?_) (fun c16 => ?_)
      · skip
        have hno := bI_f c16
        have hA : aSeeB T F x y w = false := by unfold aSeeB; rw [hno, Bool.and_false]; rfl
        refine GV.iconst (v := (-1)) dX11_see_26 (by decide) ?_
        refine GV.iret dX11_see_27 rfl ?_
        refine ⟨by unfold aSeeV; rw [if_neg (by rw [hA]; decide)], ?_⟩
        unfold aSeeF
        rw [if_neg (by rw [hA]; decide)]
      · skip
        have hman := bI_t c16
        refine GV.iload_n dX11_see_19 rfl ?_
        refine GV.cS1 yoX11_isInch ml_X11_161 st_X11_isInch dX11_see_20 (Nat.le_of_ble_eq_true rfl) (by omega) rfl (Nat.le_of_ble_eq_true rfl) (GV.rd (fun _ _ => isInch_V (by omega))) (GV.rdK ?_)
        refine GV.if_ne 28 dX11_see_23 (by decide) (fun c23 => ?_) (fun c23 => ?_)
        · skip
          have hin := bI_t c23
          refine GV.aload_n dX11_see_28 rfl ?_
          refine GV.getf okX11 11 (fun h H => H.aown.1) fl_X11_62 dX11_see_29 (by decide) rfl ?_
          refine GV.iload_n dX11_see_32 rfl ?_
          refine GV.iload_n dX11_see_33 rfl ?_
          refine GV.iload_n dX11_see_34 rfl ?_
          refine GV.iload dX11_see_35 rfl ?_
          refine GV.cV4 (ci := 3) yoX3_add ml_X11_372 im_X3_add se_X3_add dX11_see_37 rfl (fun h H => H.aF.1) (Nat.le_of_ble_eq_true rfl) (by omega) rfl (Nat.le_of_ble_eq_true rfl) (GV.up (fun h H => fAdd_V (by omega) H.aF hF.1 h24b) (fun h v h' H q => ⟨q.1, H.wF q.2.1 q.2.2⟩)) (GV.wrK ?_)
          refine GV.iret dX11_see_40 rfl ?_
          have hA : aSeeB T F x y w = true := by unfold aSeeB; rw [decide_eq_true c2, decide_eq_true c8, hman, hin, decide_eq_true (p := ¬ F.1 0 = 24) h24]; rfl
          refine ⟨by unfold aSeeV; rw [if_pos hA, ← hF.1], ?_⟩
          unfold aSeeF
          rw [if_pos hA]
        · skip
          have hin := bI_f c23
          have hA : aSeeB T F x y w = false := by unfold aSeeB; rw [hin, Bool.and_false]; rfl
          refine GV.iconst (v := (-1)) dX11_see_26 (by decide) ?_
          refine GV.iret dX11_see_27 rfl ?_
          refine ⟨by unfold aSeeV; rw [if_neg (by rw [hA]; decide)], ?_⟩
          unfold aSeeF
          rw [if_neg (by rw [hA]; decide)]
theorem see_F {d n0 z : Nat} {κ : Kd} {h0 : Hp} (hd : 2 ≤ d) {s : St} {T T2 : Tx} {c g th u F k pa tu rd tk : St} {x y w : Int32} {b : Bool} (hw : wfT T) (hF : okN (F.1 0) 25) : GV (IB z h0) MX11_see (d, 0, 0, n0, κ) (mkF s T T2 c g th u F k pa tu rd tk) 0 [some (.ref z), some (.int x), some (.int y), some (.int w), some (.int (bI b))] [] (gW (some (.int (aSeeV T F x y w))) (mkF s T T2 c g th u (aSeeF T F x y w b) k pa tu rd tk)) := by
  by_cases h24 : F.1 0 = nI 24
  · exact see0_F hd hw hF h24
  · exact see1_F hd hw hF h24
set_option maxRecDepth 100000 in
set_option maxHeartbeats 1000000 in
theorem strike0_F {d n0 z : Nat} {κ : Kd} {h0 : Hp} (hd : 2 ≤ d) {s : St} {T T2 : Tx} {c g th u F k pa tu rd tk : St} {x : Int32} (hb : x < 0 ∨ F.1 0 ≤ x ∨ F.1 0 = nI 24) : GV (IB z h0) MX11_strike (d, 0, 0, n0, κ) (mkF s T T2 c g th u F k pa tu rd tk) 0 [some (.ref z), some (.int (x))] [] (gW (some (.int (aStrV F x))) (mkF s T T2 c g th u (aStrF F x) k pa tu rd tk)) := by
  refine GV.aload_n dX11_strike_0 rfl ?_
  refine GV.getf okX11 11 (fun h H => H.aown.1) fl_X11_62 dX11_strike_1 (by decide) rfl ?_
  refine GV.iload_n dX11_strike_4 rfl ?_
  refine GV.cV1 (ci := 3) yoX3_addStrike ml_X11_376 im_X3_addStrike se_X3_addStrike dX11_strike_5 rfl (fun h H => H.aF.1) (Nat.le_of_ble_eq_true rfl) (by omega) rfl (Nat.le_of_ble_eq_true rfl) (GV.rd (fun h H => fStrikeNo_V (by omega) H.aF hb)) (GV.rdK ?_)
  refine GV.iret dX11_strike_8 rfl ?_
  have hA : aStrB F x = false := by
    unfold aStrB
    rcases hb with q | q | q
    · rw [decide_eq_false (p := ¬ x < 0) (fun z => z q)]; rfl
    · rw [decide_eq_false (p := ¬ F.1 0 ≤ x) (fun z => z q), Bool.and_false]; rfl
    · rw [decide_eq_false (p := ¬ F.1 0 = 24) (fun z => z q), Bool.and_false]
  refine ⟨by unfold aStrV; rw [if_neg (by rw [hA]; decide)], ?_⟩
  unfold aStrF
  rw [if_neg (by rw [hA]; decide)]
set_option maxRecDepth 100000 in
set_option maxHeartbeats 1000000 in
theorem strike1_F {d n0 z : Nat} {κ : Kd} {h0 : Hp} (hd : 2 ≤ d) {s : St} {T T2 : Tx} {c g th u F k pa tu rd tk : St} {x : Int32} (hF : okN (F.1 0) 25) (h1 : ¬ x < 0) (h2 : ¬ F.1 0 ≤ x) (h3 : ¬ F.1 0 = nI 24) : GV (IB z h0) MX11_strike (d, 0, 0, n0, κ) (mkF s T T2 c g th u F k pa tu rd tk) 0 [some (.ref z), some (.int (x))] [] (gW (some (.int (aStrV F x))) (mkF s T T2 c g th u (aStrF F x) k pa tu rd tk)) := by
  have h24b : nat (F.1 0) < 24 := by
    have := hF.2
    have h : ¬ nat (F.1 0) = 24 := fun z => h3 (by rw [hF.1, z])
    omega
  have hA : aStrB F x = true := by unfold aStrB; rw [decide_eq_true h1, decide_eq_true h2, decide_eq_true (p := ¬ F.1 0 = 24) h3]; rfl
  refine GV.aload_n dX11_strike_0 rfl ?_
  refine GV.getf okX11 11 (fun h H => H.aown.1) fl_X11_62 dX11_strike_1 (by decide) rfl ?_
  refine GV.iload_n dX11_strike_4 rfl ?_
  refine GV.cV1 (ci := 3) yoX3_addStrike ml_X11_376 im_X3_addStrike se_X3_addStrike dX11_strike_5 rfl (fun h H => H.aF.1) (Nat.le_of_ble_eq_true rfl) (by omega) rfl (Nat.le_of_ble_eq_true rfl) (GV.up (fun h H => fStrike_V (by omega) H.aF hF.1 h24b h1 h2) (fun h v h' H q => ⟨q.1, H.wF q.2.1 q.2.2⟩)) (GV.wrK ?_)
  refine GV.iret dX11_strike_8 rfl ?_
  refine ⟨by unfold aStrV; rw [if_pos hA, ← hF.1], ?_⟩
  unfold aStrF
  rw [if_pos hA]
theorem strike_F {d n0 z : Nat} {κ : Kd} {h0 : Hp} (hd : 2 ≤ d) {s : St} {T T2 : Tx} {c g th u F k pa tu rd tk : St} {x : Int32} (hF : okN (F.1 0) 25) : GV (IB z h0) MX11_strike (d, 0, 0, n0, κ) (mkF s T T2 c g th u F k pa tu rd tk) 0 [some (.ref z), some (.int x)] [] (gW (some (.int (aStrV F x))) (mkF s T T2 c g th u (aStrF F x) k pa tu rd tk)) := by
  by_cases h1 : x < 0
  · exact strike0_F hd (Or.inl h1)
  by_cases h2 : F.1 0 ≤ x
  · exact strike0_F hd (Or.inr (Or.inl h2))
  by_cases h3 : F.1 0 = nI 24
  · exact strike0_F hd (Or.inr (Or.inr h3))
  exact strike1_F hd hF h1 h2 h3
set_option maxRecDepth 100000 in
set_option maxHeartbeats 1000000 in
theorem known_F {d n0 z : Nat} {κ : Kd} {h0 : Hp} (hd : 2 ≤ d) {s : St} {T T2 : Tx} {c g th u F k pa tu rd tk : St} {x : Int32} : GV (IB z h0) MX11_known (d, 0, 0, n0, κ) (mkF s T T2 c g th u F k pa tu rd tk) 0 [some (.ref z), some (.int (x))] [] (gW (some (.int (bI (aKnoB F x)))) (mkF s T T2 c g th u (aKnoF F x) k pa tu rd tk)) := by
  refine GV.aload_n dX11_known_0 rfl ?_
  refine GV.getf okX11 11 (fun h H => H.aown.1) fl_X11_62 dX11_known_1 (by decide) rfl ?_
  refine GV.iload_n dX11_known_4 rfl ?_
  refine GV.cV1 (ci := 3) yoX3_setKnownBy ml_X11_379 im_X3_setKnownBy se_X3_setKnownBy dX11_known_5 rfl (fun h H => H.aF.1) (Nat.le_of_ble_eq_true rfl) (by omega) rfl (Nat.le_of_ble_eq_true rfl) (GV.up (fun h H => fKnow_V (by omega) H.aF) (fun h v h' H q => ⟨q.1, H.wF q.2.1 q.2.2⟩)) (GV.wrK ?_)
  refine GV.zret .boolean dX11_known_8 rfl (by split <;> rfl) ?_
  have e : bI (aKnoB F x) = (if ¬ x < -1 ∧ x ≤ F.1 0 then 1 else 0) := by
    unfold aKnoB
    by_cases q : ¬ x < -1 ∧ x ≤ F.1 0
    · rw [if_pos q, decide_eq_true q.1, decide_eq_true q.2]; rfl
    · rw [if_neg q]
      by_cases q1 : x < -1
      · rw [decide_eq_false (p := ¬ x < -1) (fun z => z q1)]; rfl
      · rw [decide_eq_false (p := x ≤ F.1 0) (fun z => q ⟨q1, z⟩), Bool.and_false]; rfl
  refine ⟨by rw [e], ?_⟩
  have e2 : aKnoF F x = (if ¬ x < -1 ∧ x ≤ F.1 0 then fKnow F x else F) := by
    unfold aKnoF aKnoB
    by_cases q : ¬ x < -1 ∧ x ≤ F.1 0
    · rw [if_pos q, decide_eq_true q.1, decide_eq_true q.2]; rfl
    · rw [if_neg q]
      by_cases q1 : x < -1
      · rw [decide_eq_false (p := ¬ x < -1) (fun z => z q1)]; rfl
      · rw [decide_eq_false (p := x ≤ F.1 0) (fun z => q ⟨q1, z⟩), Bool.and_false]; rfl
  rw [e2]
