/-! The face of BurntEnds: small questions -/
def gW {σ : Type} (r : Option Value) (s : σ) : Option Value → σ → Prop := fun v s' => v = r ∧ s' = s
theorem GV.wrK {σ : Type} {I : σ → Hp → Prop} {Y : Yd} {Z : Zd} {s1 : σ} {pc : Nat} {L : List (Option Value)} {rest : List Value} {P : Option Value → σ → Prop} {r : Option Value} (k : GV I Y Z s1 pc L (r.toList ++ rest) P) : ∀ (v : Option Value) (s' : σ), gW r s1 v s' → GV I Y Z s' pc L (v.toList ++ rest) P := by
  rintro _ _ ⟨rfl, rfl⟩
  exact k
theorem man_of {T : Tx} {x : Int32} (hw : wfT T) (h : isManB (T.1.1 0) x = true) : ∃ p, x = nI p ∧ p < nat (T.1.1 0) ∧ p < 6 ∧ nat (nI p) = p := by
  unfold isManB at h
  rw [Bool.and_eq_true, decide_eq_true_eq, decide_eq_true_eq] at h
  obtain ⟨p, hp, rfl⟩ := nI_of h.1
  have h1 := hw.1
  rw [h1.1] at h
  have h2 : p < nat (T.1.1 0) := Nat.not_le.mp fun z => h.2 (nI_le z hp)
  have h3 := h1.2
  exact ⟨p, rfl, h2, by omega, nI_clamp (by omega)⟩
theorem sees_litM {T : Tx} {c : St} (hp : c.1 0 = T.1.1 0) (hw : wfT T) : c.1 0 = nI (nat (T.1.1 0)) ∧ nat (T.1.1 0) ≤ 6 := ⟨hp.trans hw.1.1, by have := hw.1.2; omega⟩
set_option maxRecDepth 100000 in
set_option maxHeartbeats 1000000 in
theorem isPerson_F {d n0 z : Nat} {κ : Kd} {h0 : Hp} (hd : 1 ≤ d) {s : St} {T T2 : Tx} {c g th u F k pa tu rd tk : St} {x : Int32} : GV (IB z h0) MX11_isPerson (d, 0, 0, n0, κ) (mkF s T T2 c g th u F k pa tu rd tk) 0 [some (.ref z), some (.int (x))] [] (gR (mkF s T T2 c g th u F k pa tu rd tk) (.int (bI (isManB (T.1.1 0) x)))) := by
  refine GV.iload_n dX11_isPerson_0 rfl ?_
  refine GV.if_lt 19 dX11_isPerson_1 (by decide) (fun c1 => ?_) (fun c1 => ?_)
  · skip
    refine GV.iconst (v := 0) dX11_isPerson_19 (by decide) ?_
    refine GV.zret .boolean dX11_isPerson_20 rfl (rfl) ?_
    exact ⟨by simp_all [isManB, isInchB, isEndB, areTwoB, -Int32.not_lt, -Int32.not_le, bI], rfl⟩
  · skip
    refine GV.iload_n dX11_isPerson_4 rfl ?_
    refine GV.aload_n dX11_isPerson_5 rfl ?_
    refine GV.getf okX11 3 (fun h H => H.aown.1) fl_X11_25 dX11_isPerson_6 (by decide) rfl ?_
    refine GV.getf okX8 0 (fun h H => H.aT.1.1) fl_X11_194 dX11_isPerson_9 (by decide) rfl ?_
    refine GV.icmp_ge 19 dX11_isPerson_12 (by decide) (fun c12 => ?_) (fun c12 => ?_)
    · skip
      refine GV.iconst (v := 0) dX11_isPerson_19 (by decide) ?_
      refine GV.zret .boolean dX11_isPerson_20 rfl (rfl) ?_
      exact ⟨by simp_all [isManB, isInchB, isEndB, areTwoB, -Int32.not_lt, -Int32.not_le, bI], rfl⟩
    · skip
      refine GV.iconst (v := 1) dX11_isPerson_15 (by decide) ?_
      refine GV.goto 20 dX11_isPerson_16 (by decide) ?_
      refine GV.zret .boolean dX11_isPerson_20 rfl (rfl) ?_
      exact ⟨by simp_all [isManB, isInchB, isEndB, areTwoB, -Int32.not_lt, -Int32.not_le, bI], rfl⟩
set_option maxRecDepth 100000 in
set_option maxHeartbeats 1000000 in
theorem areTwo_F {d n0 z : Nat} {κ : Kd} {h0 : Hp} (hd : 2 ≤ d) {s : St} {T T2 : Tx} {c g th u F k pa tu rd tk : St} {x y : Int32} : GV (IB z h0) MX11_areTwo (d, 0, 0, n0, κ) (mkF s T T2 c g th u F k pa tu rd tk) 0 [some (.ref z), some (.int (x)), some (.int (y))] [] (gR (mkF s T T2 c g th u F k pa tu rd tk) (.int (bI (areTwoB (T.1.1 0) x y)))) := by
  refine GV.aload_n dX11_areTwo_0 rfl ?_
  refine GV.iload_n dX11_areTwo_1 rfl ?_
  refine GV.cV1 (ci := 11) yoX11_isPerson ml_X11_120 im_X11_isPerson se_X11_isPerson dX11_areTwo_2 rfl (fun h H => H.aown.1) (Nat.le_of_ble_eq_true rfl) (by omega) rfl (Nat.le_of_ble_eq_true rfl) (isPerson_F (by omega)) (GV.rdK ?_)
  refine GV.if_eq 25 dX11_areTwo_5 (by decide) (fun c5 => ?_) (fun c5 => ?_)
  · skip
    refine GV.iconst (v := 0) dX11_areTwo_25 (by decide) ?_
    refine GV.zret .boolean dX11_areTwo_26 rfl (rfl) ?_
    exact ⟨by unfold areTwoB; first | (rw [bI_f c5]; rfl) | (rw [bI_t c5, bI_f c13]; rfl) | (rw [bI_t c5, bI_t c13]; simp_all [bI]), rfl⟩
  · skip
    refine GV.aload_n dX11_areTwo_8 rfl ?_
    refine GV.iload_n dX11_areTwo_9 rfl ?_
    refine GV.cV1 (ci := 11) yoX11_isPerson ml_X11_120 im_X11_isPerson se_X11_isPerson dX11_areTwo_10 rfl (fun h H => H.aown.1) (Nat.le_of_ble_eq_true rfl) (by omega) rfl (Nat.le_of_ble_eq_true rfl) (isPerson_F (by omega)) (GV.rdK ?_)
    refine GV.if_eq 25 dX11_areTwo_13 (by decide) (fun c13 => ?_) (fun c13 => ?_)
    · skip
      refine GV.iconst (v := 0) dX11_areTwo_25 (by decide) ?_
      refine GV.zret .boolean dX11_areTwo_26 rfl (rfl) ?_
      exact ⟨by unfold areTwoB; first | (rw [bI_f c5]; rfl) | (rw [bI_t c5, bI_f c13]; rfl) | (rw [bI_t c5, bI_t c13]; simp_all [bI]), rfl⟩
    · skip
      refine GV.iload_n dX11_areTwo_16 rfl ?_
      refine GV.iload_n dX11_areTwo_17 rfl ?_
      refine GV.icmp_eq 25 dX11_areTwo_18 (by decide) (fun c18 => ?_) (fun c18 => ?_)
      · skip
        refine GV.iconst (v := 0) dX11_areTwo_25 (by decide) ?_
        refine GV.zret .boolean dX11_areTwo_26 rfl (rfl) ?_
        exact ⟨by unfold areTwoB; first | (rw [bI_f c5]; rfl) | (rw [bI_t c5, bI_f c13]; rfl) | (rw [bI_t c5, bI_t c13]; simp_all [bI]), rfl⟩
      · skip
        refine GV.iconst (v := 1) dX11_areTwo_21 (by decide) ?_
        refine GV.goto 26 dX11_areTwo_22 (by decide) ?_
        refine GV.zret .boolean dX11_areTwo_26 rfl (rfl) ?_
        exact ⟨by unfold areTwoB; first | (rw [bI_f c5]; rfl) | (rw [bI_t c5, bI_f c13]; rfl) | (rw [bI_t c5, bI_t c13]; simp_all [bI]), rfl⟩
set_option maxRecDepth 100000 in
set_option maxHeartbeats 1000000 in
theorem isInch_V {d n0 : Nat} {κ : Kd} (hd : 1 ≤ d) {h : Hp} {x : Int32} : V MX11_isInch (d, 0, 0, n0, κ) 0 0 h 0 [some (.int (x))] [] (Rd h (.int (bI (isInchB x)))) := by
  refine V.iload_n dX11_isInch_0 rfl ?_
  refine V.if_lt 14 dX11_isInch_1 (by decide) (fun c1 => ?_) (fun c1 => ?_)
  · skip
    refine V.iconst (v := 0) dX11_isInch_14 (by decide) ?_
    refine V.zret .boolean dX11_isInch_15 rfl (rfl) ?_
    exact ⟨by simp_all [isManB, isInchB, isEndB, areTwoB, -Int32.not_lt, -Int32.not_le, bI], rfl⟩
  · skip
    refine V.iload_n dX11_isInch_4 rfl ?_
    refine V.bipush (v := 60) dX11_isInch_5 (by decide) ?_
    refine V.icmp_ge 14 dX11_isInch_7 (by decide) (fun c7 => ?_) (fun c7 => ?_)
    · skip
      refine V.iconst (v := 0) dX11_isInch_14 (by decide) ?_
      refine V.zret .boolean dX11_isInch_15 rfl (rfl) ?_
      exact ⟨by simp_all [isManB, isInchB, isEndB, areTwoB, -Int32.not_lt, -Int32.not_le, bI], rfl⟩
    · skip
      refine V.iconst (v := 1) dX11_isInch_10 (by decide) ?_
      refine V.goto 15 dX11_isInch_11 (by decide) ?_
      refine V.zret .boolean dX11_isInch_15 rfl (rfl) ?_
      exact ⟨by simp_all [isManB, isInchB, isEndB, areTwoB, -Int32.not_lt, -Int32.not_le, bI], rfl⟩
set_option maxRecDepth 100000 in
set_option maxHeartbeats 1000000 in
theorem isEnd_V {d n0 : Nat} {κ : Kd} (hd : 1 ≤ d) {h : Hp} {x : Int32} : V MX11_isEnd (d, 0, 0, n0, κ) 0 0 h 0 [some (.int (x))] [] (Rd h (.int (bI (isEndB x)))) := by
  refine V.iload_n dX11_isEnd_0 rfl ?_
  refine V.if_eq 9 dX11_isEnd_1 (by decide) (fun c1 => ?_) (fun c1 => ?_)
  · skip
    refine V.iconst (v := 1) dX11_isEnd_9 (by decide) ?_
    refine V.goto 14 dX11_isEnd_10 (by decide) ?_
    refine V.zret .boolean dX11_isEnd_14 rfl (rfl) ?_
    exact ⟨by simp_all [isManB, isInchB, isEndB, areTwoB, -Int32.not_lt, -Int32.not_le, bI], rfl⟩
  · skip
    refine V.iload_n dX11_isEnd_4 rfl ?_
    refine V.iconst (v := 1) dX11_isEnd_5 (by decide) ?_
    refine V.icmp_ne 13 dX11_isEnd_6 (by decide) (fun c6 => ?_) (fun c6 => ?_)
    · skip
      refine V.iconst (v := 0) dX11_isEnd_13 (by decide) ?_
      refine V.zret .boolean dX11_isEnd_14 rfl (rfl) ?_
      exact ⟨by simp_all [isManB, isInchB, isEndB, areTwoB, -Int32.not_lt, -Int32.not_le, bI], rfl⟩
    · skip
      refine V.iconst (v := 1) dX11_isEnd_9 (by decide) ?_
      refine V.goto 14 dX11_isEnd_10 (by decide) ?_
      refine V.zret .boolean dX11_isEnd_14 rfl (rfl) ?_
      exact ⟨by simp_all [isManB, isInchB, isEndB, areTwoB, -Int32.not_lt, -Int32.not_le, bI], rfl⟩
set_option maxRecDepth 100000 in
set_option maxHeartbeats 1000000 in
theorem sees_F {d n0 z : Nat} {κ : Kd} {h0 : Hp} (hd : 2 ≤ d) {s : St} {T T2 : Tx} {c g th u F k pa tu rd tk : St} {i : Nat} (hi : i < 6) (hw : wfT T) (hp : c.1 0 = T.1.1 0) : GV (IB z h0) MX11_sees (d, 0, 0, n0, κ) (mkF s T T2 c g th u F k pa tu rd tk) 0 [some (.ref z), some (.int (nI i))] [] (gR (mkF s T T2 c g th u F k pa tu rd tk) (.int (bI (seesB (litM (c.2.1 5) (nat (T.1.1 0))) (T.1.2.1 4 i) i)))) := by
  refine GV.aload_n dX11_sees_0 rfl ?_
  refine GV.getf okX11 3 (fun h H => H.aown.1) fl_X11_25 dX11_sees_1 (by decide) rfl ?_
  refine GV.aload_n dX11_sees_4 rfl ?_
  refine GV.getf okX11 5 (fun h H => H.aown.1) fl_X11_35 dX11_sees_5 (by decide) rfl ?_
  refine GV.cV0 (ci := 0) yoX0_litMen ml_X11_242 im_X0_litMen se_X0_litMen dX11_sees_8 rfl (fun h H => H.ac.1) (Nat.le_of_ble_eq_true rfl) (by omega) rfl (Nat.le_of_ble_eq_true rfl) (GV.rd (fun h H => litMen_V (by omega) H.ac (sees_litM hp hw).1 (sees_litM hp hw).2)) (GV.rdK ?_)
  refine GV.iload_n dX11_sees_11 rfl ?_
  refine GV.cV2 (ci := 8) yoX8_isSeeing ml_X11_245 im_X8_isSeeing se_X8_isSeeing dX11_sees_12 rfl (fun h H => H.aT.1.1) (Nat.le_of_ble_eq_true rfl) (by omega) rfl (Nat.le_of_ble_eq_true rfl) (GV.rd (fun h H => tSees_V (by omega) H.aT.1 hi)) (GV.rdK ?_)
  refine GV.zret .boolean dX11_sees_15 rfl (bI_n _) ?_
  exact ⟨rfl, rfl⟩
set_option maxRecDepth 100000 in
set_option maxHeartbeats 1000000 in
theorem fault_F {d n0 z : Nat} {κ : Kd} {h0 : Hp} (hd : 1 ≤ d) {s : St} {T T2 : Tx} {c g th u F k pa tu rd tk : St} {x : Int32} : GV (IB z h0) MX11_fault (d, 0, 0, n0, κ) (mkF s T T2 c g th u F k pa tu rd tk) 0 [some (.ref z), some (.int (x))] [] (gR (mkF s T T2 c g th u F k pa tu rd tk) (.int (aFault (rd.1 0) (rd.1 1) x))) := by
  refine GV.iload_n dX11_fault_0 rfl ?_
  refine GV.if_ne 12 dX11_fault_1 (by decide) (fun c1 => ?_) (fun c1 => ?_)
  · skip
    refine GV.iload_n dX11_fault_12 rfl ?_
    refine GV.iconst (v := 1) dX11_fault_13 (by decide) ?_
    refine GV.icmp_ne 27 dX11_fault_14 (by decide) (fun c14 => ?_) (fun c14 => ?_)
    · skip
      refine GV.iconst (v := (-1)) dX11_fault_27 (by decide) ?_
      refine GV.iret dX11_fault_28 rfl ?_
      exact ⟨by simp_all [aFault], rfl⟩
    · skip
      refine GV.aload_n dX11_fault_17 rfl ?_
      refine GV.getf okX11 2 (fun h H => H.aown.1) fl_X11_18 dX11_fault_18 (by decide) rfl ?_
      refine GV.getf okX6 1 (fun h H => H.ard.1) fl_X11_113 dX11_fault_21 (by decide) rfl ?_
      refine GV.goto 28 dX11_fault_24 (by decide) ?_
      refine GV.iret dX11_fault_28 rfl ?_
      exact ⟨by simp_all [aFault], rfl⟩
  · skip
    refine GV.aload_n dX11_fault_4 rfl ?_
    refine GV.getf okX11 2 (fun h H => H.aown.1) fl_X11_18 dX11_fault_5 (by decide) rfl ?_
    refine GV.getf okX6 0 (fun h H => H.ard.1) fl_X11_110 dX11_fault_8 (by decide) rfl ?_
    refine GV.iret dX11_fault_11 rfl ?_
    exact ⟨by simp_all [aFault], rfl⟩
set_option maxRecDepth 100000 in
set_option maxHeartbeats 1000000 in
theorem named_F {d n0 z : Nat} {κ : Kd} {h0 : Hp} (hd : 2 ≤ d) {s : St} {T T2 : Tx} {c g th u F k pa tu rd tk : St} {x : Int32} (hw : wfT T) : GV (IB z h0) MX11_named (d, 0, 0, n0, κ) (mkF s T T2 c g th u F k pa tu rd tk) 0 [some (.ref z), some (.int (x))] [] (gR (mkF s T T2 c g th u F k pa tu rd tk) (.int (findF (T.1.2.1 1) x (nat (T.1.1 0)) 0))) := by
  refine GV.aload_n dX11_named_0 rfl ?_
  refine GV.getf okX11 3 (fun h H => H.aown.1) fl_X11_25 dX11_named_1 (by decide) rfl ?_
  refine GV.iload_n dX11_named_4 rfl ?_
  refine GV.cV1 (ci := 8) yoX8_find ml_X11_116 im_X8_find se_X8_find dX11_named_5 rfl (fun h H => H.aT.1.1) (Nat.le_of_ble_eq_true rfl) (by omega) rfl (Nat.le_of_ble_eq_true rfl) (GV.rd (fun h H => tFind_V (by omega) H.aT.1 hw.1.1 (by have := hw.1.2; omega))) (GV.rdK ?_)
  refine GV.iret dX11_named_8 rfl ?_
  exact ⟨rfl, rfl⟩
set_option maxRecDepth 100000 in
set_option maxHeartbeats 1000000 in
theorem june_F {d n0 z : Nat} {κ : Kd} {h0 : Hp} (hd : 3 ≤ d) {s : St} {T T2 : Tx} {c g th u F k pa tu rd tk : St} {x y : Int32} (hw : wfT T) : GV (IB z h0) MX11_june (d, 0, 0, n0, κ) (mkF s T T2 c g th u F k pa tu rd tk) 0 [some (.ref z), some (.int (x)), some (.int (y))] [] (gR (mkF s T T2 c g th u F k pa tu rd tk) (.int (aJune T c x y))) := by
  refine GV.aload_n dX11_june_0 rfl ?_
  refine GV.iload_n dX11_june_1 rfl ?_
  refine GV.cV1 (ci := 11) yoX11_isPerson ml_X11_120 im_X11_isPerson se_X11_isPerson dX11_june_2 rfl (fun h H => H.aown.1) (Nat.le_of_ble_eq_true rfl) (by omega) rfl (Nat.le_of_ble_eq_true rfl) (isPerson_F (by omega)) (GV.rdK ?_)
  refine GV.if_eq 15 dX11_june_5 (by decide) (fun c5 => ?_) (fun c5 => ?_)
  · skip
    have hno := bI_f c5
    refine GV.iconst (v := (-1)) dX11_june_15 (by decide) ?_
    refine GV.iret dX11_june_16 rfl ?_
    refine ⟨?_, rfl⟩
    unfold aJune
    simp_all
  · skip
    have hman := bI_t c5
    obtain ⟨p, rfl, hpn, hp6, hnp⟩ := man_of hw hman
    refine GV.iload_n dX11_june_8 rfl ?_
    refine GV.cS1 yoX11_isInch ml_X11_161 st_X11_isInch dX11_june_9 (Nat.le_of_ble_eq_true rfl) (by omega) rfl (Nat.le_of_ble_eq_true rfl) (GV.rd (fun _ _ => isInch_V (by omega))) (GV.rdK ?_)
    refine GV.if_ne 17 dX11_june_12 (by decide) (fun c12 => ?_) (fun c12 => ?_)
    · skip
      have hin := bI_t c12
      refine GV.aload_n dX11_june_17 rfl ?_
      refine GV.getf okX11 3 (fun h H => H.aown.1) fl_X11_25 dX11_june_18 (by decide) rfl ?_
      refine GV.iload_n dX11_june_21 rfl ?_
      refine GV.iload_n dX11_june_22 rfl ?_
      refine GV.cV2 (ci := 8) yoX8_isJune ml_X11_164 im_X8_isJune se_X8_isJune dX11_june_23 rfl (fun h H => H.aT.1.1) (Nat.le_of_ble_eq_true rfl) (by omega) rfl (Nat.le_of_ble_eq_true rfl) (GV.rd (fun h H => tJune_V (by omega) H.aT.1 hp6)) (GV.rdK ?_)
      refine GV.if_ne 31 dX11_june_26 (by decide) (fun c26 => ?_) (fun c26 => ?_)
      · skip
        have hj := bI_t c26
        refine GV.aload_n dX11_june_31 rfl ?_
        refine GV.getf okX11 5 (fun h H => H.aown.1) fl_X11_35 dX11_june_32 (by decide) rfl ?_
        refine GV.iload_n dX11_june_35 rfl ?_
        refine GV.iload_n dX11_june_36 rfl ?_
        refine GV.cV2 (ci := 0) yoX0_isLeft ml_X11_168 im_X0_isLeft se_X0_isLeft dX11_june_37 rfl (fun h H => H.ac.1) (Nat.le_of_ble_eq_true rfl) (by omega) rfl (Nat.le_of_ble_eq_true rfl) (GV.rd (fun h H => isLeft_V (by omega) H.ac hp6)) (GV.rdK ?_)
        refine GV.if_eq 47 dX11_june_40 (by decide) (fun c40 => ?_) (fun c40 => ?_)
        · skip
          have hl := bI_f c40
          refine GV.iconst (v := 1) dX11_june_47 (by decide) ?_
          refine GV.iret dX11_june_48 rfl ?_
          refine ⟨?_, rfl⟩
          unfold aJune
          simp_all
        · skip
          have hl := bI_t c40
          refine GV.iconst (v := 2) dX11_june_43 (by decide) ?_
          refine GV.goto 48 dX11_june_44 (by decide) ?_
          refine GV.iret dX11_june_48 rfl ?_
          refine ⟨?_, rfl⟩
          unfold aJune
          simp_all
      · skip
        have hj := bI_f c26
        refine GV.iconst (v := 0) dX11_june_29 (by decide) ?_
        refine GV.iret dX11_june_30 rfl ?_
        refine ⟨?_, rfl⟩
        unfold aJune
        simp_all
    · skip
      have hin := bI_f c12
      refine GV.iconst (v := (-1)) dX11_june_15 (by decide) ?_
      refine GV.iret dX11_june_16 rfl ?_
      refine ⟨?_, rfl⟩
      unfold aJune
      simp_all
set_option maxRecDepth 100000 in
set_option maxHeartbeats 1000000 in
theorem lenders_F {d n0 z : Nat} {κ : Kd} {h0 : Hp} (hd : 2 ≤ d) {s : St} {T T2 : Tx} {c g th u F k pa tu rd tk : St} {x : Int32} (hw : wfT T) : GV (IB z h0) MX11_lenders (d, 0, 0, n0, κ) (mkF s T T2 c g th u F k pa tu rd tk) 0 [some (.ref z), some (.int (x))] [] (gR (mkF s T T2 c g th u F k pa tu rd tk) (.int (aLend T x))) := by
  refine GV.aload_n dX11_lenders_0 rfl ?_
  refine GV.iload_n dX11_lenders_1 rfl ?_
  refine GV.cV1 (ci := 11) yoX11_isPerson ml_X11_120 im_X11_isPerson se_X11_isPerson dX11_lenders_2 rfl (fun h H => H.aown.1) (Nat.le_of_ble_eq_true rfl) (by omega) rfl (Nat.le_of_ble_eq_true rfl) (isPerson_F (by omega)) (GV.rdK ?_)
  refine GV.if_eq 20 dX11_lenders_5 (by decide) (fun c5 => ?_) (fun c5 => ?_)
  · skip
    have hno := bI_f c5
    refine GV.iconst (v := (-1)) dX11_lenders_20 (by decide) ?_
    refine GV.iret dX11_lenders_21 rfl ?_
    refine ⟨?_, rfl⟩
    unfold aLend
    simp_all
  · skip
    have hman := bI_t c5
    obtain ⟨p, rfl, hpn, hp6, hnp⟩ := man_of hw hman
    refine GV.aload_n dX11_lenders_8 rfl ?_
    refine GV.getf okX11 3 (fun h H => H.aown.1) fl_X11_25 dX11_lenders_9 (by decide) rfl ?_
    refine GV.getf okX8 4 (fun h H => H.aT.1.1) fl_X11_171 dX11_lenders_12 (by decide) rfl ?_
    refine GV.iload_n dX11_lenders_15 rfl ?_
    refine GV.ald (fun h H => C8_r4 H.aT.1) dX11_lenders_16 (rfl) (hp6) (by decide) ?_
    refine GV.goto 21 dX11_lenders_17 (by decide) ?_
    refine GV.iret dX11_lenders_21 rfl ?_
    refine ⟨?_, rfl⟩
    unfold aLend
    simp_all
set_option maxRecDepth 100000 in
set_option maxHeartbeats 1000000 in
theorem keepInch_F {d n0 z : Nat} {κ : Kd} {h0 : Hp} (hd : 3 ≤ d) {s : St} {T T2 : Tx} {c g th u F k pa tu rd tk : St} {x y : Int32} (hw : wfT T) : GV (IB z h0) MX11_keepInch (d, 0, 0, n0, κ) (mkF s T T2 c g th u F k pa tu rd tk) 0 [some (.ref z), some (.int (x)), some (.int (y)), none, none] [] (gR (mkF s T T2 c g th u F k pa tu rd tk) (.int (aKeep T c x y))) := by
  refine GV.aload_n dX11_keepInch_0 rfl ?_
  refine GV.iload_n dX11_keepInch_1 rfl ?_
  refine GV.cV1 (ci := 11) yoX11_isPerson ml_X11_120 im_X11_isPerson se_X11_isPerson dX11_keepInch_2 rfl (fun h H => H.aown.1) (Nat.le_of_ble_eq_true rfl) (by omega) rfl (Nat.le_of_ble_eq_true rfl) (isPerson_F (by omega)) (GV.rdK ?_)
  refine GV.if_eq 15 dX11_keepInch_5 (by decide) (fun c5 => ?_) (fun c5 => ?_)
  · skip
    have hno := bI_f c5
    refine GV.iconst (v := (-1)) dX11_keepInch_15 (by decide) ?_
    refine GV.iret dX11_keepInch_16 rfl ?_
    refine ⟨?_, rfl⟩
    unfold aKeep
    simp_all [cMax]
  · skip
    have hman := bI_t c5
    obtain ⟨p, rfl, hpn, hp6, hnp⟩ := man_of hw hman
    refine GV.iload_n dX11_keepInch_8 rfl ?_
    refine GV.cS1 yoX11_isInch ml_X11_161 st_X11_isInch dX11_keepInch_9 (Nat.le_of_ble_eq_true rfl) (by omega) rfl (Nat.le_of_ble_eq_true rfl) (GV.rd (fun _ _ => isInch_V (by omega))) (GV.rdK ?_)
    refine GV.if_ne 17 dX11_keepInch_12 (by decide) (fun c12 => ?_) (fun c12 => ?_)
    · skip
      have hin := bI_t c12
      refine GV.aload_n dX11_keepInch_17 rfl ?_
      refine GV.getf okX11 5 (fun h H => H.aown.1) fl_X11_35 dX11_keepInch_18 (by decide) rfl ?_
      refine GV.iload_n dX11_keepInch_21 rfl ?_
      refine GV.iload_n dX11_keepInch_22 rfl ?_
      refine GV.cV2 (ci := 0) yoX0_isLeft ml_X11_168 im_X0_isLeft se_X0_isLeft dX11_keepInch_23 rfl (fun h H => H.ac.1) (Nat.le_of_ble_eq_true rfl) (by omega) rfl (Nat.le_of_ble_eq_true rfl) (GV.rd (fun h H => isLeft_V (by omega) H.ac hp6)) (GV.rdK ?_)
      refine GV.if_ne 32 dX11_keepInch_26 (by decide) (fun c26 => ?_) (fun c26 => ?_)
      · skip
        have hl := bI_t c26
        refine GV.iload_n dX11_keepInch_32 rfl ?_
        refine GV.aload_n dX11_keepInch_33 rfl ?_
        refine GV.getf okX11 5 (fun h H => H.aown.1) fl_X11_35 dX11_keepInch_34 (by decide) rfl ?_
        refine GV.getf okX0 3 (fun h H => H.ac.1) fl_X11_137 dX11_keepInch_37 (by decide) rfl ?_
        refine GV.iload_n dX11_keepInch_40 rfl ?_
        refine GV.ald (fun h H => C0_r3 H.ac) dX11_keepInch_41 (rfl) (hp6) (by decide) ?_
        refine GV.isub dX11_keepInch_42 ?_
        refine GV.istore_n dX11_keepInch_43 (by decide) rfl ?_
        refine GV.aload_n dX11_keepInch_44 rfl ?_
        refine GV.getf okX11 5 (fun h H => H.aown.1) fl_X11_35 dX11_keepInch_45 (by decide) rfl ?_
        refine GV.getf okX0 1 (fun h H => H.ac.1) fl_X11_140 dX11_keepInch_48 (by decide) rfl ?_
        refine GV.iload_n dX11_keepInch_51 rfl ?_
        refine GV.ald (fun h H => C0_r1 H.ac) dX11_keepInch_52 (rfl) (hp6) (by decide) ?_
        refine GV.aload_n dX11_keepInch_53 rfl ?_
        refine GV.getf okX11 5 (fun h H => H.aown.1) fl_X11_35 dX11_keepInch_54 (by decide) rfl ?_
        refine GV.getf okX0 4 (fun h H => H.ac.1) fl_X11_141 dX11_keepInch_57 (by decide) rfl ?_
        refine GV.iload_n dX11_keepInch_60 rfl ?_
        refine GV.ald (fun h H => C0_r4 H.ac) dX11_keepInch_61 (rfl) (hp6) (by decide) ?_
        refine GV.isub dX11_keepInch_62 ?_
        refine GV.iconst (v := 1) dX11_keepInch_63 (by decide) ?_
        refine GV.isub dX11_keepInch_64 ?_
        refine GV.iload_n dX11_keepInch_65 rfl ?_
        refine GV.isub dX11_keepInch_66 ?_
        refine GV.istore dX11_keepInch_67 (by decide) rfl ?_
        refine GV.iload_n dX11_keepInch_69 rfl ?_
        refine GV.iload dX11_keepInch_70 rfl ?_
        refine GV.mmax ml_X11_310 st_J9_max_7cf53 ini_J9 co_J9_max_7cf53 dX11_keepInch_72 (by omega) (Nat.le_of_ble_eq_true rfl) ?_
        refine GV.iret dX11_keepInch_75 rfl ?_
        refine ⟨?_, rfl⟩
        unfold aKeep
        simp_all [cMax]
      · skip
        have hl := bI_f c26
        refine GV.bipush (v := (-2)) dX11_keepInch_29 (by decide) ?_
        refine GV.iret dX11_keepInch_31 rfl ?_
        refine ⟨?_, rfl⟩
        unfold aKeep
        simp_all [cMax]
    · skip
      have hin := bI_f c12
      refine GV.iconst (v := (-1)) dX11_keepInch_15 (by decide) ?_
      refine GV.iret dX11_keepInch_16 rfl ?_
      refine ⟨?_, rfl⟩
      unfold aKeep
      simp_all [cMax]
theorem IB.alaws {z : Nat} {h0 h : Hp} {s : St} {T T2 : Tx} {c g th u F k pa tu rd tk : St} (H : IB z h0 (mkF s T T2 c g th u F k pa tu rd tk) h) : h (s.2.2.2 3 + 13) = some (.inr (4, oX4 (s.2.2.2 3 + 13) T.2.2.2.1 T.2.2.2.2.2.2)) := by
  obtain ⟨g, q⟩ := H.aT.2.2.2
  exact q.1
theorem IB.apc {z : Nat} {h0 h : Hp} {s : St} {T T2 : Tx} {c g th u F k pa tu rd tk : St} (H : IB z h0 (mkF s T T2 c g th u F k pa tu rd tk) h) : s.2.2.2 3 + 19 ≤ z + 63 ∨ z + 63 + 7 ≤ s.2.2.2 3 := by
  have e : (s.2.2.2 3 = z + 25 ∧ s.2.2.2 4 = z + 44) ∨ (s.2.2.2 3 = z + 44 ∧ s.2.2.2 4 = z + 25) := H.1.2.1
  omega
theorem IB.apth {z : Nat} {h0 h : Hp} {s : St} {T T2 : Tx} {c g th u F k pa tu rd tk : St} (H : IB z h0 (mkF s T T2 c g th u F k pa tu rd tk) h) : s.2.2.2 3 + 19 ≤ z + 77 ∨ z + 77 + 7 ≤ s.2.2.2 3 := by
  have e : (s.2.2.2 3 = z + 25 ∧ s.2.2.2 4 = z + 44) ∨ (s.2.2.2 3 = z + 44 ∧ s.2.2.2 4 = z + 25) := H.1.2.1
  omega
set_option maxRecDepth 100000 in
set_option maxHeartbeats 1000000 in
theorem recalledN_F {d n0 z : Nat} {κ : Kd} {h0 : Hp} (hd : 5 ≤ d) {s : St} {T T2 : Tx} {c g th u F k pa tu rd tk : St} {p : Nat} (hw : wfT T) (hpn : p < nat (T.1.1 0)) : GV (IB z h0) MX11_recalled (d, 0, 0, n0, κ) (mkF s T T2 c g th u F k pa tu rd tk) 0 [some (.ref z), some (.ref (z + 63)), some (.int (nI p)), none, none] [] (gR (mkF s T T2 c g th u F k pa tu rd tk) (.int (aRec T c p))) := by
  have hp6 : p < 6 := by have := hw.1.2; omega
  refine GV.aload_n dX11_recalled_0 rfl ?_
  refine GV.getf okX11 3 (fun h H => H.aown.1) fl_X11_25 dX11_recalled_1 (by decide) rfl ?_
  refine GV.getf okX8 9 (fun h H => H.aT.1.1) fl_X11_180 dX11_recalled_4 (by decide) rfl ?_
  refine GV.iconst (v := 2) dX11_recalled_7 (by decide) ?_
  refine GV.aload_n dX11_recalled_8 rfl ?_
  refine GV.iload_n dX11_recalled_9 rfl ?_
  refine GV.aload_n dX11_recalled_10 rfl ?_
  refine GV.getf okX11 3 (fun h H => H.aown.1) fl_X11_25 dX11_recalled_11 (by decide) rfl ?_
  refine GV.cV0 (ci := 8) yoX8_isWindyAsItGoes ml_X11_184 im_X8_isWindyAsItGoes se_X8_isWindyAsItGoes dX11_recalled_14 rfl (fun h H => H.aT.1.1) (Nat.le_of_ble_eq_true rfl) (by omega) rfl (Nat.le_of_ble_eq_true rfl) (GV.rd (fun h H => tWindy_V (by omega) H.aT.1)) (GV.rdK ?_)
  refine GV.cV4 (ci := 4) yoX4_worth ml_X11_188 im_X4_worth se_X4_worth dX11_recalled_17 rfl (fun h H => H.alaws) (Nat.le_of_ble_eq_true rfl) (by omega) rfl (Nat.le_of_ble_eq_true rfl) (GV.lift (P1 := gW (some (.long (tW T 2 c p (tWindy T.1)))) (mkF s T T2 c g th u F k pa tu rd tk)) (fun h H => worthT_V (r := 2) (by omega) H.aT.2.2.2 H.ac hw (H.apc) hpn (by decide)) (fun h v h' H q => ⟨_, ⟨q.1, rfl⟩, H.wL q.2.1 q.2.2⟩)) (GV.wrK ?_)
  refine GV.lstore_n dX11_recalled_20 (by decide) rfl ?_
  refine GV.lload_n dX11_recalled_21 rfl ?_
  refine GV.ldc2 kc_X11_178 dX11_recalled_22 ?_
  refine GV.lcmp dX11_recalled_25 ?_
  refine GV.if_ne 37 dX11_recalled_26 (by decide) (fun c26 => ?_) (fun c26 => ?_)
  · skip
    have he : ¬ tW T 2 c p (tWindy T.1) = ERR := fun z => c26 (by rw [z]; decide)
    refine GV.lload_n dX11_recalled_37 rfl ?_
    refine GV.sipush (v := 9999) dX11_recalled_38 (by decide) ?_
    refine GV.cS2 yoX11_within ml_X11_248 st_X11_within dX11_recalled_41 (Nat.le_of_ble_eq_true rfl) (by omega) rfl (Nat.le_of_ble_eq_true rfl) (GV.rd (fun _ _ => within_V (by omega))) (GV.rdK ?_)
    refine GV.iret dX11_recalled_44 rfl ?_
    refine ⟨?_, rfl⟩
    unfold aRec
    simp_all
  · skip
    have he : tW T 2 c p (tWindy T.1) = ERR := (lg_cmp_eq _ _).mp c26
    refine GV.aload_n dX11_recalled_29 rfl ?_
    refine GV.iload_n dX11_recalled_30 rfl ?_
    refine GV.cV1 (ci := 0) yoX0_junesLeft ml_X11_147 im_X0_junesLeft se_X0_junesLeft dX11_recalled_31 rfl (fun h H => H.ac.1) (Nat.le_of_ble_eq_true rfl) (by omega) rfl (Nat.le_of_ble_eq_true rfl) (GV.rd (fun h H => junesLeft_V (by omega) H.ac hp6)) (GV.rdK ?_)
    refine GV.goto 44 dX11_recalled_34 (by decide) ?_
    refine GV.iret dX11_recalled_44 rfl ?_
    refine ⟨?_, rfl⟩
    unfold aRec
    simp_all
set_option maxRecDepth 100000 in
set_option maxHeartbeats 1000000 in
theorem recalledT_F {d n0 z : Nat} {κ : Kd} {h0 : Hp} (hd : 5 ≤ d) {s : St} {T T2 : Tx} {c g th u F k pa tu rd tk : St} {p : Nat} (hw : wfT T) (hpn : p < nat (T.1.1 0)) : GV (IB z h0) MX11_recalled (d, 0, 0, n0, κ) (mkF s T T2 c g th u F k pa tu rd tk) 0 [some (.ref z), some (.ref (z + 77)), some (.int (nI p)), none, none] [] (gR (mkF s T T2 c g th u F k pa tu rd tk) (.int (aRec T th p))) := by
  have hp6 : p < 6 := by have := hw.1.2; omega
  refine GV.aload_n dX11_recalled_0 rfl ?_
  refine GV.getf okX11 3 (fun h H => H.aown.1) fl_X11_25 dX11_recalled_1 (by decide) rfl ?_
  refine GV.getf okX8 9 (fun h H => H.aT.1.1) fl_X11_180 dX11_recalled_4 (by decide) rfl ?_
  refine GV.iconst (v := 2) dX11_recalled_7 (by decide) ?_
  refine GV.aload_n dX11_recalled_8 rfl ?_
  refine GV.iload_n dX11_recalled_9 rfl ?_
  refine GV.aload_n dX11_recalled_10 rfl ?_
  refine GV.getf okX11 3 (fun h H => H.aown.1) fl_X11_25 dX11_recalled_11 (by decide) rfl ?_
  refine GV.cV0 (ci := 8) yoX8_isWindyAsItGoes ml_X11_184 im_X8_isWindyAsItGoes se_X8_isWindyAsItGoes dX11_recalled_14 rfl (fun h H => H.aT.1.1) (Nat.le_of_ble_eq_true rfl) (by omega) rfl (Nat.le_of_ble_eq_true rfl) (GV.rd (fun h H => tWindy_V (by omega) H.aT.1)) (GV.rdK ?_)
  refine GV.cV4 (ci := 4) yoX4_worth ml_X11_188 im_X4_worth se_X4_worth dX11_recalled_17 rfl (fun h H => H.alaws) (Nat.le_of_ble_eq_true rfl) (by omega) rfl (Nat.le_of_ble_eq_true rfl) (GV.lift (P1 := gW (some (.long (tW T 2 th p (tWindy T.1)))) (mkF s T T2 c g th u F k pa tu rd tk)) (fun h H => worthT_V (r := 2) (by omega) H.aT.2.2.2 H.ath hw (H.apth) hpn (by decide)) (fun h v h' H q => ⟨_, ⟨q.1, rfl⟩, H.wL q.2.1 q.2.2⟩)) (GV.wrK ?_)
  refine GV.lstore_n dX11_recalled_20 (by decide) rfl ?_
  refine GV.lload_n dX11_recalled_21 rfl ?_
  refine GV.ldc2 kc_X11_178 dX11_recalled_22 ?_
  refine GV.lcmp dX11_recalled_25 ?_
  refine GV.if_ne 37 dX11_recalled_26 (by decide) (fun c26 => ?_) (fun c26 => ?_)
  · skip
    have he : ¬ tW T 2 th p (tWindy T.1) = ERR := fun z => c26 (by rw [z]; decide)
    refine GV.lload_n dX11_recalled_37 rfl ?_
    refine GV.sipush (v := 9999) dX11_recalled_38 (by decide) ?_
    refine GV.cS2 yoX11_within ml_X11_248 st_X11_within dX11_recalled_41 (Nat.le_of_ble_eq_true rfl) (by omega) rfl (Nat.le_of_ble_eq_true rfl) (GV.rd (fun _ _ => within_V (by omega))) (GV.rdK ?_)
    refine GV.iret dX11_recalled_44 rfl ?_
    refine ⟨?_, rfl⟩
    unfold aRec
    simp_all
  · skip
    have he : tW T 2 th p (tWindy T.1) = ERR := (lg_cmp_eq _ _).mp c26
    refine GV.aload_n dX11_recalled_29 rfl ?_
    refine GV.iload_n dX11_recalled_30 rfl ?_
    refine GV.cV1 (ci := 0) yoX0_junesLeft ml_X11_147 im_X0_junesLeft se_X0_junesLeft dX11_recalled_31 rfl (fun h H => H.ath.1) (Nat.le_of_ble_eq_true rfl) (by omega) rfl (Nat.le_of_ble_eq_true rfl) (GV.rd (fun h H => junesLeft_V (by omega) H.ath hp6)) (GV.rdK ?_)
    refine GV.goto 44 dX11_recalled_34 (by decide) ?_
    refine GV.iret dX11_recalled_44 rfl ?_
    refine ⟨?_, rfl⟩
    unfold aRec
    simp_all
set_option maxRecDepth 100000 in
set_option maxHeartbeats 1000000 in
theorem recall_F {d n0 z : Nat} {κ : Kd} {h0 : Hp} (hd : 6 ≤ d) {s : St} {T T2 : Tx} {c g th u F k pa tu rd tk : St} {x : Int32} (hw : wfT T) : GV (IB z h0) MX11_recall (d, 0, 0, n0, κ) (mkF s T T2 c g th u F k pa tu rd tk) 0 [some (.ref z), some (.int (x))] [] (gR (mkF s T T2 c g th u F k pa tu rd tk) (.int (aRecall T c x))) := by
  refine GV.aload_n dX11_recall_0 rfl ?_
  refine GV.iload_n dX11_recall_1 rfl ?_
  refine GV.cV1 (ci := 11) yoX11_isPerson ml_X11_120 im_X11_isPerson se_X11_isPerson dX11_recall_2 rfl (fun h H => H.aown.1) (Nat.le_of_ble_eq_true rfl) (by omega) rfl (Nat.le_of_ble_eq_true rfl) (isPerson_F (by omega)) (GV.rdK ?_)
  refine GV.if_eq 20 dX11_recall_5 (by decide) (fun c5 => ?_) (fun c5 => ?_)
  · skip
    have hno := bI_f c5
    refine GV.iconst (v := (-1)) dX11_recall_20 (by decide) ?_
    refine GV.iret dX11_recall_21 rfl ?_
    refine ⟨?_, rfl⟩
    unfold aRecall
    simp_all
  · skip
    have hman := bI_t c5
    obtain ⟨p, rfl, hpn, hp6, hnp⟩ := man_of hw hman
    refine GV.aload_n dX11_recall_8 rfl ?_
    refine GV.aload_n dX11_recall_9 rfl ?_
    refine GV.getf okX11 5 (fun h H => H.aown.1) fl_X11_35 dX11_recall_10 (by decide) rfl ?_
    refine GV.iload_n dX11_recall_13 rfl ?_
    refine GV.cV2 (ci := 11) yoX11_recalled ml_X11_174 im_X11_recalled se_X11_recalled dX11_recall_14 rfl (fun h H => H.aown.1) (Nat.le_of_ble_eq_true rfl) (by omega) rfl (Nat.le_of_ble_eq_true rfl) (recalledN_F (by omega) hw hpn) (GV.rdK ?_)
    refine GV.goto 21 dX11_recall_17 (by decide) ?_
    refine GV.iret dX11_recall_21 rfl ?_
    refine ⟨?_, rfl⟩
    unfold aRecall
    simp_all
