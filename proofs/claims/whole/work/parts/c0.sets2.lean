/-! The face of BurntEnds: rests, rest, cover, last -/
theorem way4 : ∀ i, i < 4 → nI i >>> (1 &&& 31) = nI (i / 2) ∧ nI i &&& 1 = nI (i % 2) ∧ 1 - nI (i / 2) = nI (1 - i / 2) ∧ 1 - nI (i % 2) = nI (1 - i % 2) ∧ 10 * nI (i / 2) + nI (i % 2) = nI (10 * (i / 2) + i % 2) ∧ i / 2 < 2 ∧ i % 2 < 2 ∧ 1 - i / 2 < 2 ∧ 1 - i % 2 < 2 := by decide +kernel
theorem nI0_iff {i : Nat} (hi : i < 100) : nI i = 0 ↔ i = 0 := ⟨fun z => nI_inj0 (y := 0) (by omega) (by decide) z, fun z => by rw [z]; rfl⟩
set_option maxRecDepth 100000 in
set_option maxHeartbeats 1000000 in
theorem spent_V {d n0 : Nat} {κ : Kd} (hd : 1 ≤ d) {h : Hp} {x y : Int32} {i j : Nat} (hi : i < 2) (hj : j < 2) : V MX11_spent (d, 0, 0, n0, κ) 0 0 h 0 [some (.int (x)), some (.int (y)), some (.int (nI i)), some (.int (nI j))] [] (Rd h (.int (spnF x y i j))) := by
  refine V.iload_n dX11_spent_0 rfl ?_
  refine V.if_ne 18 dX11_spent_1 (by decide) (fun c1 => ?_) (fun c1 => ?_)
  · skip
    have q1 : ¬ i = 0 := fun z => c1 ((nI0_iff (by omega)).mpr z)
    refine V.iload_n dX11_spent_18 rfl ?_
    refine V.if_ne 28 dX11_spent_19 (by decide) (fun c19 => ?_) (fun c19 => ?_)
    · skip
      have q5 : ¬ j = 0 := fun z => c19 ((nI0_iff (by omega)).mpr z)
      refine V.iload_n dX11_spent_28 rfl ?_
      refine V.iret dX11_spent_29 rfl ?_
      refine ⟨?_, rfl⟩
      unfold spnF
      simp_all
    · skip
      have q5 := (nI0_iff (by omega)).mp c19
      refine V.iload_n dX11_spent_22 rfl ?_
      refine V.iload_n dX11_spent_23 rfl ?_
      refine V.iadd dX11_spent_24 ?_
      refine V.goto 29 dX11_spent_25 (by decide) ?_
      refine V.iret dX11_spent_29 rfl ?_
      refine ⟨?_, rfl⟩
      unfold spnF
      simp_all
  · skip
    have q1 := (nI0_iff (by omega)).mp c1
    refine V.iload_n dX11_spent_4 rfl ?_
    refine V.if_ne 14 dX11_spent_5 (by decide) (fun c5 => ?_) (fun c5 => ?_)
    · skip
      have q5 : ¬ j = 0 := fun z => c5 ((nI0_iff (by omega)).mpr z)
      refine V.iload_n dX11_spent_14 rfl ?_
      refine V.iconst (v := 2) dX11_spent_15 (by decide) ?_
      refine V.iadd dX11_spent_16 ?_
      refine V.iret dX11_spent_17 rfl ?_
      refine ⟨?_, rfl⟩
      unfold spnF
      simp_all
    · skip
      have q5 := (nI0_iff (by omega)).mp c5
      refine V.iload_n dX11_spent_8 rfl ?_
      refine V.iconst (v := 2) dX11_spent_9 (by decide) ?_
      refine V.idiv dX11_spent_10 (by decide) ?_
      refine V.goto 17 dX11_spent_11 (by decide) ?_
      refine V.iret dX11_spent_17 rfl ?_
      refine ⟨?_, rfl⟩
      unfold spnF
      simp_all
set_option maxRecDepth 100000 in
set_option maxHeartbeats 1000000 in
theorem isRest_F {d n0 z : Nat} {κ : Kd} {h0 : Hp} (hd : 3 ≤ d) {s : St} {T T2 : Tx} {c g th u F k pa tu rd tk : St} {p q i : Nat} (hp6 : p < 6) (hq6 : q < 6) (hi : i < 4) : GV (IB z h0) MX11_isRest (d, 0, 0, n0, κ) (mkF s T T2 c g th u F k pa tu rd tk) 0 [some (.ref z), some (.int (nI p)), some (.int (nI q)), some (.int (nI i)), none, none, none, none] [] (gR (mkF s T T2 c g th u F k pa tu rd tk) (.int (bI (restB (cJunesLeft c p) (cJunesLeft c q) i)))) := by
  obtain ⟨w1, w2, w3, w4, w5, w6, w7, w8, w9⟩ := way4 i hi
  refine GV.aload_n dX11_isRest_0 rfl ?_
  refine GV.getf okX11 5 (fun h H => H.aown.1) fl_X11_35 dX11_isRest_1 (by decide) rfl ?_
  refine GV.iload_n dX11_isRest_4 rfl ?_
  refine GV.cV1 (ci := 0) yoX0_junesLeft ml_X11_147 im_X0_junesLeft se_X0_junesLeft dX11_isRest_5 rfl (fun h H => H.ac.1) (Nat.le_of_ble_eq_true rfl) (by omega) rfl (Nat.le_of_ble_eq_true rfl) (GV.rd (fun h H => junesLeft_V (by omega) H.ac hp6)) (GV.rdK ?_)
  refine GV.istore dX11_isRest_8 (by decide) rfl ?_
  refine GV.aload_n dX11_isRest_10 rfl ?_
  refine GV.getf okX11 5 (fun h H => H.aown.1) fl_X11_35 dX11_isRest_11 (by decide) rfl ?_
  refine GV.iload_n dX11_isRest_14 rfl ?_
  refine GV.cV1 (ci := 0) yoX0_junesLeft ml_X11_147 im_X0_junesLeft se_X0_junesLeft dX11_isRest_15 rfl (fun h H => H.ac.1) (Nat.le_of_ble_eq_true rfl) (by omega) rfl (Nat.le_of_ble_eq_true rfl) (GV.rd (fun h H => junesLeft_V (by omega) H.ac hq6)) (GV.rdK ?_)
  refine GV.istore dX11_isRest_18 (by decide) rfl ?_
  refine GV.iload_n dX11_isRest_20 rfl ?_
  refine GV.iconst (v := 1) dX11_isRest_21 (by decide) ?_
  refine GV.ishr dX11_isRest_22 ?_
  refine GV.eqi (y := nI (i / 2)) w1 ?_
  refine GV.istore dX11_isRest_23 (by decide) rfl ?_
  refine GV.iload_n dX11_isRest_25 rfl ?_
  refine GV.iconst (v := 1) dX11_isRest_26 (by decide) ?_
  refine GV.iand dX11_isRest_27 ?_
  refine GV.eqi (y := nI (i % 2)) w2 ?_
  refine GV.istore dX11_isRest_28 (by decide) rfl ?_
  refine GV.iload dX11_isRest_30 rfl ?_
  refine GV.iload dX11_isRest_32 rfl ?_
  refine GV.iconst (v := 1) dX11_isRest_34 (by decide) ?_
  refine GV.iload dX11_isRest_35 rfl ?_
  refine GV.isub dX11_isRest_37 ?_
  refine GV.eqi (y := nI (1 - i / 2)) w3 ?_
  refine GV.iload dX11_isRest_38 rfl ?_
  refine GV.cS4 yoX11_spent ml_X11_343 st_X11_spent dX11_isRest_40 (Nat.le_of_ble_eq_true rfl) (by omega) rfl (Nat.le_of_ble_eq_true rfl) (GV.rd (fun _ _ => spent_V (i := 1 - i / 2) (j := i % 2) (by omega) (by omega) (by omega))) (GV.rdK ?_)
  refine GV.iload dX11_isRest_43 rfl ?_
  refine GV.iload dX11_isRest_45 rfl ?_
  refine GV.iload dX11_isRest_47 rfl ?_
  refine GV.iload dX11_isRest_49 rfl ?_
  refine GV.cS4 yoX11_spent ml_X11_343 st_X11_spent dX11_isRest_51 (Nat.le_of_ble_eq_true rfl) (by omega) rfl (Nat.le_of_ble_eq_true rfl) (GV.rd (fun _ _ => spent_V (i := i / 2) (j := i % 2) (by omega) (by omega) (by omega))) (GV.rdK ?_)
  refine GV.icmp_gt 88 dX11_isRest_54 (by decide) (fun c54 => ?_) (fun c54 => ?_)
  · skip
    have hA : restB (cJunesLeft c p) (cJunesLeft c q) i = false := by unfold restB; rw [decide_eq_false (fun z => z c54), Bool.false_and]
    refine GV.iconst (v := 0) dX11_isRest_88 (by decide) ?_
    refine GV.zret .boolean dX11_isRest_89 rfl (rfl) ?_
    exact ⟨by rw [hA]; try rfl, rfl⟩
  · skip
    refine GV.iload dX11_isRest_57 rfl ?_
    refine GV.iload dX11_isRest_59 rfl ?_
    refine GV.iconst (v := 1) dX11_isRest_61 (by decide) ?_
    refine GV.iload dX11_isRest_62 rfl ?_
    refine GV.isub dX11_isRest_64 ?_
    refine GV.eqi (y := nI (1 - i % 2)) w4 ?_
    refine GV.iload dX11_isRest_65 rfl ?_
    refine GV.cS4 yoX11_spent ml_X11_343 st_X11_spent dX11_isRest_67 (Nat.le_of_ble_eq_true rfl) (by omega) rfl (Nat.le_of_ble_eq_true rfl) (GV.rd (fun _ _ => spent_V (i := 1 - i % 2) (j := i / 2) (by omega) (by omega) (by omega))) (GV.rdK ?_)
    refine GV.iload dX11_isRest_70 rfl ?_
    refine GV.iload dX11_isRest_72 rfl ?_
    refine GV.iload dX11_isRest_74 rfl ?_
    refine GV.iload dX11_isRest_76 rfl ?_
    refine GV.cS4 yoX11_spent ml_X11_343 st_X11_spent dX11_isRest_78 (Nat.le_of_ble_eq_true rfl) (by omega) rfl (Nat.le_of_ble_eq_true rfl) (GV.rd (fun _ _ => spent_V (i := i % 2) (j := i / 2) (by omega) (by omega) (by omega))) (GV.rdK ?_)
    refine GV.icmp_gt 88 dX11_isRest_81 (by decide) (fun c81 => ?_) (fun c81 => ?_)
    · skip
      have hA : restB (cJunesLeft c p) (cJunesLeft c q) i = false := by unfold restB; rw [decide_eq_true c54, decide_eq_false (fun z => z c81)]; rfl
      refine GV.iconst (v := 0) dX11_isRest_88 (by decide) ?_
      refine GV.zret .boolean dX11_isRest_89 rfl (rfl) ?_
      exact ⟨by rw [hA]; try rfl, rfl⟩
    · skip
      have hA : restB (cJunesLeft c p) (cJunesLeft c q) i = true := by unfold restB; rw [decide_eq_true c54, decide_eq_true c81]; rfl
      refine GV.iconst (v := 1) dX11_isRest_84 (by decide) ?_
      refine GV.goto 89 dX11_isRest_85 (by decide) ?_
      refine GV.zret .boolean dX11_isRest_89 rfl (rfl) ?_
      exact ⟨by rw [hA]; try rfl, rfl⟩
set_option maxRecDepth 100000 in
set_option maxHeartbeats 1000000 in
theorem rests_F {d n0 z : Nat} {κ : Kd} {h0 : Hp} (hd : 4 ≤ d) {s : St} {T T2 : Tx} {c g th u F k pa tu rd tk : St} {x y : Int32} (hw : wfT T) : GV (IB z h0) MX11_rests (d, 0, 0, n0, κ) (mkF s T T2 c g th u F k pa tu rd tk) 0 [some (.ref z), some (.int (x)), some (.int (y)), none, none] [] (gR (mkF s T T2 c g th u F k pa tu rd tk) (.int (aRests T c x y))) := by
  refine GV.aload_n dX11_rests_0 rfl ?_
  refine GV.iload_n dX11_rests_1 rfl ?_
  refine GV.iload_n dX11_rests_2 rfl ?_
  refine GV.cV2 (ci := 11) yoX11_areTwo ml_X11_286 im_X11_areTwo se_X11_areTwo dX11_rests_3 rfl (fun h H => H.aown.1) (Nat.le_of_ble_eq_true rfl) (by omega) rfl (Nat.le_of_ble_eq_true rfl) (areTwo_F (by omega)) (GV.rdK ?_)
  refine GV.if_ne 11 dX11_rests_6 (by decide) (fun c6 => ?_) (fun c6 => ?_)
  · skip
    have htwo := bI_t c6
    obtain ⟨p, q, rfl, rfl, hpn, hqn, hp6, hq6, hnp, hnq, hne⟩ := two_of hw htwo
    refine GV.iconst (v := 0) dX11_rests_11 (by decide) ?_
    refine GV.istore_n dX11_rests_12 (by decide) rfl ?_
    refine GV.iconst (v := 0) dX11_rests_13 (by decide) ?_
    refine GV.istore dX11_rests_14 (by decide) rfl ?_
    refine GV.weak [some (.ref z), some (.int (nI p)), some (.int (nI q)), some (.int (nI 0)), some (.int (nI 0))] (by simp [leL, sto1, sto2, k2c]; first | done | rfl) ?_
    suffices hL : ∀ (j i n : Nat), i + j = 4 → n ≤ i → restF (restB (cJunesLeft c p) (cJunesLeft c q)) (-1) j i n = restF (restB (cJunesLeft c p) (cJunesLeft c q)) (-1) 4 0 0 → GV (IB z h0) MX11_rests (d, 0, 0, n0, κ) (mkF s T T2 c g th u F k pa tu rd tk) 16 [some (.ref z), some (.int (nI p)), some (.int (nI q)), some (.int (nI n)), some (.int (nI i))] [] (gR (mkF s T T2 c g th u F k pa tu rd tk) (.int (aRests T c (nI p) (nI q)))) from hL 4 0 0 (by omega) (by omega) rfl
    intro j
    induction j with
    | zero =>
      intro i n hij hni hr
      have hi4 : i = 4 := by omega
      subst hi4
      refine GV.iload dX11_rests_16 rfl ?_
      refine GV.iconst (v := nI 4) dX11_rests_18 (by decide) ?_
      refine GV.icmp_ge 42 dX11_rests_19 (by decide) (fun _ => ?_) (fun z => absurd (nI_le (by omega) (by omega)) z)
      refine GV.iload_n dX11_rests_42 rfl ?_
      refine GV.iret dX11_rests_43 rfl ?_
      exact ⟨by rw [aRests, if_pos htwo, hnp, hnq, ← hr, restF, if_pos rfl], rfl⟩
    | succ j ih =>
      intro i n hij hni hr
      have hi : i < 4 := by omega
      refine GV.iload dX11_rests_16 rfl ?_
      refine GV.iconst (v := nI 4) dX11_rests_18 (by decide) ?_
      refine GV.icmp_ge 42 dX11_rests_19 (by decide) (fun z => absurd z (nI_ge (by omega) (by omega))) (fun _ => ?_)
      refine GV.aload_n dX11_rests_22 rfl ?_
      refine GV.iload_n dX11_rests_23 rfl ?_
      refine GV.iload_n dX11_rests_24 rfl ?_
      refine GV.iload dX11_rests_25 rfl ?_
      refine GV.cV3 (ci := 11) yoX11_isRest ml_X11_339 im_X11_isRest se_X11_isRest dX11_rests_27 rfl (fun h H => H.aown.1) (Nat.le_of_ble_eq_true rfl) (by omega) rfl (Nat.le_of_ble_eq_true rfl) (isRest_F (by omega) hp6 hq6 hi) (GV.rdK ?_)
      refine GV.if_eq 36 dX11_rests_30 (by decide) (fun c30 => ?_) (fun c30 => ?_)
      · skip
        have hb := bI_f c30
        rw [restF, if_neg (by rw [hb]; decide)] at hr
        refine GV.iinc (v := 1) dX11_rests_36 rfl (by decide) (by decide) rfl ?_
        refine GV.goto 16 dX11_rests_39 (by decide) ?_
        first
        | (refine GV.weak [some (.ref z), some (.int (nI p)), some (.int (nI q)), some (.int (nI (n + 1))), some (.int (nI (i + 1)))] (by simp [leL, sto1, sto2, k2c, nI_1]; done) ?_; exact ih (i + 1) (n + 1) (by omega) (by omega) hr)
        | (refine GV.weak [some (.ref z), some (.int (nI p)), some (.int (nI q)), some (.int (nI n)), some (.int (nI (i + 1)))] (by simp [leL, sto1, sto2, k2c, nI_1]; done) ?_; exact ih (i + 1) n (by omega) (by omega) hr)
      · skip
        have hb := bI_t c30
        rw [restF, if_pos hb, if_neg (nI_m1 (by omega))] at hr
        refine GV.iinc (v := 1) dX11_rests_33 rfl (by decide) (by decide) rfl ?_
        refine GV.iinc (v := 1) dX11_rests_36 rfl (by decide) (by decide) rfl ?_
        refine GV.goto 16 dX11_rests_39 (by decide) ?_
        first
        | (refine GV.weak [some (.ref z), some (.int (nI p)), some (.int (nI q)), some (.int (nI (n + 1))), some (.int (nI (i + 1)))] (by simp [leL, sto1, sto2, k2c, nI_1]; done) ?_; exact ih (i + 1) (n + 1) (by omega) (by omega) hr)
        | (refine GV.weak [some (.ref z), some (.int (nI p)), some (.int (nI q)), some (.int (nI n)), some (.int (nI (i + 1)))] (by simp [leL, sto1, sto2, k2c, nI_1]; done) ?_; exact ih (i + 1) n (by omega) (by omega) hr)
  · skip
    have hno := bI_f c6
    refine GV.iconst (v := (-1)) dX11_rests_9 (by decide) ?_
    refine GV.iret dX11_rests_10 rfl ?_
    exact ⟨by rw [aRests, if_neg (by rw [hno]; decide)], rfl⟩
set_option maxRecDepth 100000 in
set_option maxHeartbeats 1000000 in
theorem rest_F {d n0 z : Nat} {κ : Kd} {h0 : Hp} (hd : 4 ≤ d) {s : St} {T T2 : Tx} {c g th u F k pa tu rd tk : St} {x y w : Int32} (hw : wfT T) : GV (IB z h0) MX11_rest (d, 0, 0, n0, κ) (mkF s T T2 c g th u F k pa tu rd tk) 0 [some (.ref z), some (.int (x)), some (.int (y)), some (.int (w)), none, none] [] (gR (mkF s T T2 c g th u F k pa tu rd tk) (.int (aRest T c x y w))) := by
  refine GV.aload_n dX11_rest_0 rfl ?_
  refine GV.iload_n dX11_rest_1 rfl ?_
  refine GV.iload_n dX11_rest_2 rfl ?_
  refine GV.cV2 (ci := 11) yoX11_areTwo ml_X11_286 im_X11_areTwo se_X11_areTwo dX11_rest_3 rfl (fun h H => H.aown.1) (Nat.le_of_ble_eq_true rfl) (by omega) rfl (Nat.le_of_ble_eq_true rfl) (areTwo_F (by omega)) (GV.rdK ?_)
  refine GV.if_eq 13 dX11_rest_6 (by decide) (fun c6 => ?_) (fun c6 => ?_)
  · skip
    have hno := bI_f c6
    have hA : aRest T c x y w = -1 := by rw [aRest, if_neg (fun z => by rw [hno] at z; exact absurd z.1 (by decide))]
    refine GV.iconst (v := (-1)) dX11_rest_13 (by decide) ?_
    refine GV.iret dX11_rest_14 rfl ?_
    exact ⟨by rw [hA], rfl⟩
  · skip
    have htwo := bI_t c6
    obtain ⟨p, q, rfl, rfl, hpn, hqn, hp6, hq6, hnp, hnq, hne⟩ := two_of hw htwo
    refine GV.iload_n dX11_rest_9 rfl ?_
    refine GV.if_ge 15 dX11_rest_10 (by decide) (fun c10 => ?_) (fun c10 => ?_)
    · skip
      have q10 : ¬ w < 0 := Int32.not_lt.mpr c10
      refine GV.iconst (v := 0) dX11_rest_15 (by decide) ?_
      refine GV.istore dX11_rest_16 (by decide) rfl ?_
      refine GV.iconst (v := 0) dX11_rest_18 (by decide) ?_
      refine GV.istore dX11_rest_19 (by decide) rfl ?_
      have hm1 : ¬ w = -1 := fun z => q10 (by rw [z]; decide)
      refine GV.weak [some (.ref z), some (.int (nI p)), some (.int (nI q)), some (.int w), some (.int (nI 0)), some (.int (nI 0))] (by simp [leL, sto1, sto2, k2c]; first | done | rfl) ?_
      suffices hL : ∀ (j i n : Nat), i + j = 4 → n ≤ i → restF (restB (cJunesLeft c p) (cJunesLeft c q)) w j i n = restF (restB (cJunesLeft c p) (cJunesLeft c q)) w 4 0 0 → GV (IB z h0) MX11_rest (d, 0, 0, n0, κ) (mkF s T T2 c g th u F k pa tu rd tk) 21 [some (.ref z), some (.int (nI p)), some (.int (nI q)), some (.int w), some (.int (nI n)), some (.int (nI i))] [] (gR (mkF s T T2 c g th u F k pa tu rd tk) (.int (aRest T c (nI p) (nI q) w))) from hL 4 0 0 (by omega) (by omega) rfl
      intro j
      induction j with
      | zero =>
        intro i n hij hni hr
        have hi4 : i = 4 := by omega
        subst hi4
        refine GV.iload dX11_rest_21 rfl ?_
        refine GV.iconst (v := nI 4) dX11_rest_23 (by decide) ?_
        refine GV.icmp_ge 66 dX11_rest_24 (by decide) (fun _ => ?_) (fun z => absurd (nI_le (by omega) (by omega)) z)
        refine GV.bipush (v := (-2)) dX11_rest_66 (by decide) ?_
        refine GV.iret dX11_rest_68 rfl ?_
        exact ⟨by rw [aRest, if_pos ⟨htwo, q10⟩, hnp, hnq, ← hr, restF, if_neg hm1], rfl⟩
      | succ j ih =>
        intro i n hij hni hr
        have hi : i < 4 := by omega
        refine GV.iload dX11_rest_21 rfl ?_
        refine GV.iconst (v := nI 4) dX11_rest_23 (by decide) ?_
        refine GV.icmp_ge 66 dX11_rest_24 (by decide) (fun z => absurd z (nI_ge (by omega) (by omega))) (fun _ => ?_)
        refine GV.aload_n dX11_rest_27 rfl ?_
        refine GV.iload_n dX11_rest_28 rfl ?_
        refine GV.iload_n dX11_rest_29 rfl ?_
        refine GV.iload dX11_rest_30 rfl ?_
        refine GV.cV3 (ci := 11) yoX11_isRest ml_X11_339 im_X11_isRest se_X11_isRest dX11_rest_32 rfl (fun h H => H.aown.1) (Nat.le_of_ble_eq_true rfl) (by omega) rfl (Nat.le_of_ble_eq_true rfl) (isRest_F (by omega) hp6 hq6 hi) (GV.rdK ?_)
        refine GV.if_eq 60 dX11_rest_35 (by decide) (fun c35 => ?_) (fun c35 => ?_)
        · skip
          have hb := bI_f c35
          rw [restF, if_neg (by rw [hb]; decide)] at hr
          refine GV.iinc (v := 1) dX11_rest_60 rfl (by decide) (by decide) rfl ?_
          refine GV.goto 21 dX11_rest_63 (by decide) ?_
          first
          | (refine GV.weak [some (.ref z), some (.int (nI p)), some (.int (nI q)), some (.int w), some (.int (nI (n + 1))), some (.int (nI (i + 1)))] (by simp [leL, sto1, sto2, k2c, nI_1]; done) ?_; exact ih (i + 1) (n + 1) (by omega) (by omega) hr)
          | (refine GV.weak [some (.ref z), some (.int (nI p)), some (.int (nI q)), some (.int w), some (.int (nI n)), some (.int (nI (i + 1)))] (by simp [leL, sto1, sto2, k2c, nI_1]; done) ?_; exact ih (i + 1) n (by omega) (by omega) hr)
        · skip
          have hb := bI_t c35
          rw [restF, if_pos hb] at hr
          obtain ⟨w1, w2, w3, w4, w5, w6, w7, w8, w9⟩ := way4 i hi
          refine GV.iload dX11_rest_38 rfl ?_
          refine GV.iload_n dX11_rest_40 rfl ?_
          refine GV.icmp_ne 57 dX11_rest_41 (by decide) (fun c41 => ?_) (fun c41 => ?_)
          · skip
            rw [if_neg c41] at hr
            refine GV.iinc (v := 1) dX11_rest_57 rfl (by decide) (by decide) rfl ?_
            refine GV.iinc (v := 1) dX11_rest_60 rfl (by decide) (by decide) rfl ?_
            refine GV.goto 21 dX11_rest_63 (by decide) ?_
            first
            | (refine GV.weak [some (.ref z), some (.int (nI p)), some (.int (nI q)), some (.int w), some (.int (nI (n + 1))), some (.int (nI (i + 1)))] (by simp [leL, sto1, sto2, k2c, nI_1]; done) ?_; exact ih (i + 1) (n + 1) (by omega) (by omega) hr)
            | (refine GV.weak [some (.ref z), some (.int (nI p)), some (.int (nI q)), some (.int w), some (.int (nI n)), some (.int (nI (i + 1)))] (by simp [leL, sto1, sto2, k2c, nI_1]; done) ?_; exact ih (i + 1) n (by omega) (by omega) hr)
          · skip
            rw [if_pos c41] at hr
            refine GV.bipush (v := 10) dX11_rest_44 (by decide) ?_
            refine GV.iload dX11_rest_46 rfl ?_
            refine GV.iconst (v := 1) dX11_rest_48 (by decide) ?_
            refine GV.ishr dX11_rest_49 ?_
            refine GV.eqi (y := nI (i / 2)) w1 ?_
            refine GV.imul dX11_rest_50 ?_
            refine GV.iload dX11_rest_51 rfl ?_
            refine GV.iconst (v := 1) dX11_rest_53 (by decide) ?_
            refine GV.iand dX11_rest_54 ?_
            refine GV.eqi (y := nI (i % 2)) w2 ?_
            refine GV.iadd dX11_rest_55 ?_
            refine GV.eqi (y := nI (10 * (i / 2) + i % 2)) w5 ?_
            refine GV.iret dX11_rest_56 rfl ?_
            exact ⟨by rw [aRest, if_pos ⟨htwo, q10⟩, hnp, hnq, ← hr], rfl⟩
    · skip
      have hA : aRest T c (nI p) (nI q) w = -1 := by rw [aRest, if_neg (fun z => z.2 (Int32.not_le.mp c10))]
      refine GV.iconst (v := (-1)) dX11_rest_13 (by decide) ?_
      refine GV.iret dX11_rest_14 rfl ?_
      exact ⟨by rw [hA], rfl⟩
set_option maxRecDepth 100000 in
set_option maxHeartbeats 1000000 in
theorem few_V {d n0 : Nat} {κ : Kd} (hd : 2 ≤ d) {h : Hp} {x y : Int32} : V MX11_isFewer (d, 0, 0, n0, κ) 0 0 h 0 [some (.int (x)), some (.int (y))] [] (Rd h (.int (bI (fewB x y)))) := by
  refine V.iload_n dX11_isFewer_0 rfl ?_
  refine V.if_lt 15 dX11_isFewer_1 (by decide) (fun c1 => ?_) (fun c1 => ?_)
  · skip
    refine V.iconst (v := 1) dX11_isFewer_15 (by decide) ?_
    refine V.goto 20 dX11_isFewer_16 (by decide) ?_
    refine V.zret .boolean dX11_isFewer_20 rfl (rfl) ?_
    refine ⟨?_, rfl⟩
    unfold fewB
    simp_all [bI, -Int32.not_lt, -Int32.not_le]
  · skip
    refine V.iload_n dX11_isFewer_4 rfl ?_
    refine V.cS1 yoJ6_bitCount_0f7a4 ml_X11_356 st_J6_bitCount_0f7a4 dX11_isFewer_5 (Nat.le_of_ble_eq_true rfl) (by omega) ⟨Nat.le_refl _, Nat.le_refl _⟩ rfl (Nat.le_of_ble_eq_true rfl) (bitCountI_V (by omega)) (V.rdK ?_)
    refine V.iload_n dX11_isFewer_8 rfl ?_
    refine V.cS1 yoJ6_bitCount_0f7a4 ml_X11_356 st_J6_bitCount_0f7a4 dX11_isFewer_9 (Nat.le_of_ble_eq_true rfl) (by omega) ⟨Nat.le_refl _, Nat.le_refl _⟩ rfl (Nat.le_of_ble_eq_true rfl) (bitCountI_V (by omega)) (V.rdK ?_)
    refine V.icmp_ge 19 dX11_isFewer_12 (by decide) (fun c12 => ?_) (fun c12 => ?_)
    · skip
      have q12 : ¬ bcI x < bcI y := Int32.not_lt.mpr c12
      refine V.iconst (v := 0) dX11_isFewer_19 (by decide) ?_
      refine V.zret .boolean dX11_isFewer_20 rfl (rfl) ?_
      refine ⟨?_, rfl⟩
      unfold fewB
      simp_all [bI, -Int32.not_lt, -Int32.not_le]
    · skip
      have q12 : bcI x < bcI y := Int32.not_le.mp c12
      refine V.iconst (v := 1) dX11_isFewer_15 (by decide) ?_
      refine V.goto 20 dX11_isFewer_16 (by decide) ?_
      refine V.zret .boolean dX11_isFewer_20 rfl (rfl) ?_
      refine ⟨?_, rfl⟩
      unfold fewB
      simp_all [bI, -Int32.not_lt, -Int32.not_le]
set_option maxRecDepth 100000 in
set_option maxHeartbeats 1000000 in
theorem allSee_F {d n0 z : Nat} {κ : Kd} {h0 : Hp} (hd : 2 ≤ d) {s : St} {T T2 : Tx} {c g th u F k pa tu rd tk : St} {x : Int32} (hw : wfT T) : GV (IB z h0) MX11_allSeeBy (d, 0, 0, n0, κ) (mkF s T T2 c g th u F k pa tu rd tk) 0 [some (.ref z), some (.int (x)), none] [] (gR (mkF s T T2 c g th u F k pa tu rd tk) (.int (bI (allSF T x (nat (T.1.1 0)) 0)))) := by
  refine GV.iconst (v := nI 0) dX11_allSeeBy_0 (by decide) ?_
  refine GV.istore_n dX11_allSeeBy_1 (by decide) rfl ?_
  have h6 : nat (T.1.1 0) < 7 := hw.1.2
  suffices hL : ∀ (j i : Nat), i + j = nat (T.1.1 0) → allSF T x j i = allSF T x (nat (T.1.1 0)) 0 → GV (IB z h0) MX11_allSeeBy (d, 0, 0, n0, κ) (mkF s T T2 c g th u F k pa tu rd tk) 2 [some (.ref z), some (.int (x)), some (.int (nI i))] [] (gR (mkF s T T2 c g th u F k pa tu rd tk) (.int (bI (allSF T x (nat (T.1.1 0)) 0)))) from hL _ 0 (by omega) rfl
  intro j
  induction j with
  | zero =>
    intro i hij hr
    refine GV.iload_n dX11_allSeeBy_2 rfl ?_
    refine GV.aload_n dX11_allSeeBy_3 rfl ?_
    refine GV.getf okX11 3 (fun h H => H.aown.1) fl_X11_25 dX11_allSeeBy_4 (by decide) rfl ?_
    refine GV.getf okX8 0 (fun h H => H.aT.1.1) fl_X11_194 dX11_allSeeBy_7 (by decide) rfl ?_
    refine GV.eqi (y := nI (nat (T.1.1 0))) hw.1.1 ?_
    refine GV.icmp_ge 33 dX11_allSeeBy_10 (by decide) (fun _ => ?_) (fun z => absurd (nI_le (by omega) (by omega)) z)
    refine GV.iconst (v := 1) dX11_allSeeBy_33 (by decide) ?_
    refine GV.zret .boolean dX11_allSeeBy_34 rfl (rfl) ?_
    exact ⟨by rw [← hr, allSF]; rfl, rfl⟩
  | succ j ih =>
    intro i hij hr
    refine GV.iload_n dX11_allSeeBy_2 rfl ?_
    refine GV.aload_n dX11_allSeeBy_3 rfl ?_
    refine GV.getf okX11 3 (fun h H => H.aown.1) fl_X11_25 dX11_allSeeBy_4 (by decide) rfl ?_
    refine GV.getf okX8 0 (fun h H => H.aT.1.1) fl_X11_194 dX11_allSeeBy_7 (by decide) rfl ?_
    refine GV.eqi (y := nI (nat (T.1.1 0))) hw.1.1 ?_
    refine GV.icmp_ge 33 dX11_allSeeBy_10 (by decide) (fun z => absurd z (nI_ge (by omega) (by omega))) (fun _ => ?_)
    refine GV.aload_n dX11_allSeeBy_13 rfl ?_
    refine GV.getf okX11 3 (fun h H => H.aown.1) fl_X11_25 dX11_allSeeBy_14 (by decide) rfl ?_
    refine GV.iload_n dX11_allSeeBy_17 rfl ?_
    refine GV.iload_n dX11_allSeeBy_18 rfl ?_
    refine GV.cV2 (ci := 8) yoX8_isSeeing ml_X11_245 im_X8_isSeeing se_X8_isSeeing dX11_allSeeBy_19 rfl (fun h H => H.aT.1.1) (Nat.le_of_ble_eq_true rfl) (by omega) rfl (Nat.le_of_ble_eq_true rfl) (GV.rd (fun h H => tSees_V (by omega) H.aT.1 (by omega))) (GV.rdK ?_)
    refine GV.if_ne 27 dX11_allSeeBy_22 (by decide) (fun c22 => ?_) (fun c22 => ?_)
    · skip
      rw [allSF, if_pos (bI_t c22)] at hr
      refine GV.iinc (v := 1) dX11_allSeeBy_27 rfl (by decide) (by decide) rfl ?_
      refine GV.goto 2 dX11_allSeeBy_30 (by decide) ?_
      refine GV.weak [some (.ref z), some (.int (x)), some (.int (nI (i + 1)))] (by simp [leL, sto1, sto2, k2c, nI_1]) ?_
      exact ih (i + 1) (by omega) hr
    · skip
      refine GV.iconst (v := 0) dX11_allSeeBy_25 (by decide) ?_
      refine GV.zret .boolean dX11_allSeeBy_26 rfl (rfl) ?_
      exact ⟨by rw [← hr, allSF, if_neg (by rw [bI_f c22]; decide)]; rfl, rfl⟩
set_option maxRecDepth 100000 in
set_option maxHeartbeats 1000000 in
theorem inchesOf_F {d n0 z : Nat} {κ : Kd} {h0 : Hp} (hd : 2 ≤ d) {s : St} {T T2 : Tx} {c g th u F k pa tu rd tk : St} {x : Int32} (hw : wfT T) : GV (IB z h0) MX11_inchesOf (d, 0, 0, n0, κ) (mkF s T T2 c g th u F k pa tu rd tk) 0 [some (.ref z), some (.int (x)), none, none] [] (gR (mkF s T T2 c g th u F k pa tu rd tk) (.int (sumSet c x (nat (T.1.1 0))))) := by
  refine GV.iconst (v := 0) dX11_inchesOf_0 (by decide) ?_
  refine GV.istore_n dX11_inchesOf_1 (by decide) rfl ?_
  refine GV.iconst (v := nI 0) dX11_inchesOf_2 (by decide) ?_
  refine GV.istore_n dX11_inchesOf_3 (by decide) rfl ?_
  refine GV.weak [some (.ref z), some (.int (x)), some (.int (sumSet c x 0)), some (.int (nI 0))] (by simp [leL, sto1, sto2, k2c, sumSet, sumI]; first | done | rfl) ?_
  have h6 : nat (T.1.1 0) < 7 := hw.1.2
  suffices hL : ∀ (j i : Nat), i + j = nat (T.1.1 0) → GV (IB z h0) MX11_inchesOf (d, 0, 0, n0, κ) (mkF s T T2 c g th u F k pa tu rd tk) 4 [some (.ref z), some (.int (x)), some (.int (sumSet c x i)), some (.int (nI i))] [] (gR (mkF s T T2 c g th u F k pa tu rd tk) (.int (sumSet c x (nat (T.1.1 0))))) from hL (nat (T.1.1 0)) 0 (by omega)
  intro j
  induction j with
  | zero =>
    intro i hij
    have hin : i = nat (T.1.1 0) := by omega
    subst hin
    refine GV.iload_n dX11_inchesOf_4 rfl ?_
    refine GV.aload_n dX11_inchesOf_5 rfl ?_
    refine GV.getf okX11 3 (fun h H => H.aown.1) fl_X11_25 dX11_inchesOf_6 (by decide) rfl ?_
    refine GV.getf okX8 0 (fun h H => H.aT.1.1) fl_X11_194 dX11_inchesOf_9 (by decide) rfl ?_
    refine GV.eqi (y := nI (nat (T.1.1 0))) hw.1.1 ?_
    refine GV.icmp_ge 40 dX11_inchesOf_12 (by decide) (fun _ => ?_) (fun z => absurd (nI_le (by omega) (by omega)) z)
    refine GV.iload_n dX11_inchesOf_40 rfl ?_
    refine GV.iret dX11_inchesOf_41 rfl ?_
    exact ⟨rfl, rfl⟩
  | succ j ih =>
    intro i hij
    refine GV.iload_n dX11_inchesOf_4 rfl ?_
    refine GV.aload_n dX11_inchesOf_5 rfl ?_
    refine GV.getf okX11 3 (fun h H => H.aown.1) fl_X11_25 dX11_inchesOf_6 (by decide) rfl ?_
    refine GV.getf okX8 0 (fun h H => H.aT.1.1) fl_X11_194 dX11_inchesOf_9 (by decide) rfl ?_
    refine GV.eqi (y := nI (nat (T.1.1 0))) hw.1.1 ?_
    refine GV.icmp_ge 40 dX11_inchesOf_12 (by decide) (fun z => absurd z (nI_ge (by omega) (by omega))) (fun _ => ?_)
    refine GV.iload_n dX11_inchesOf_15 rfl ?_
    refine GV.iload_n dX11_inchesOf_16 rfl ?_
    refine GV.ishr dX11_inchesOf_17 ?_
    refine GV.iconst (v := 1) dX11_inchesOf_18 (by decide) ?_
    refine GV.iand dX11_inchesOf_19 ?_
    refine GV.if_eq 34 dX11_inchesOf_20 (by decide) (fun c20 => ?_) (fun c20 => ?_)
    · skip
      have hst : sumSet c x (i + 1) = sumSet c x i := by rw [sumSet, sumI, if_pos c20, Int32.add_zero]
      refine GV.iinc (v := 1) dX11_inchesOf_34 rfl (by decide) (by decide) rfl ?_
      refine GV.goto 4 dX11_inchesOf_37 (by decide) ?_
      refine GV.weak [some (.ref z), some (.int (x)), some (.int (sumSet c x (i + 1))), some (.int (nI (i + 1)))] (by simp [leL, sto1, sto2, k2c, nI_1, hst]) ?_
      exact ih (i + 1) (by omega)
    · skip
      have hst : sumSet c x (i + 1) = sumSet c x i + cLeft c i := by rw [sumSet, sumI, if_neg c20]
      refine GV.iload_n dX11_inchesOf_23 rfl ?_
      refine GV.aload_n dX11_inchesOf_24 rfl ?_
      refine GV.getf okX11 5 (fun h H => H.aown.1) fl_X11_35 dX11_inchesOf_25 (by decide) rfl ?_
      refine GV.iload_n dX11_inchesOf_28 rfl ?_
      refine GV.cV1 (ci := 0) yoX0_leftOf ml_X11_131 im_X0_leftOf se_X0_leftOf dX11_inchesOf_29 rfl (fun h H => H.ac.1) (Nat.le_of_ble_eq_true rfl) (by omega) rfl (Nat.le_of_ble_eq_true rfl) (GV.rd (fun h H => leftOf_V (by omega) H.ac (by omega))) (GV.rdK ?_)
      refine GV.iadd dX11_inchesOf_32 ?_
      refine GV.istore_n dX11_inchesOf_33 (by decide) rfl ?_
      refine GV.iinc (v := 1) dX11_inchesOf_34 rfl (by decide) (by decide) rfl ?_
      refine GV.goto 4 dX11_inchesOf_37 (by decide) ?_
      refine GV.weak [some (.ref z), some (.int (x)), some (.int (sumSet c x (i + 1))), some (.int (nI (i + 1)))] (by simp [leL, sto1, sto2, k2c, nI_1, hst]) ?_
      exact ih (i + 1) (by omega)
set_option maxRecDepth 100000 in
set_option maxHeartbeats 1000000 in
theorem cover_F {d n0 z : Nat} {κ : Kd} {h0 : Hp} (hd : 4 ≤ d) {s : St} {T T2 : Tx} {c g th u F k pa tu rd tk : St} (hw : wfT T) (hp : c.1 0 = T.1.1 0) : GV (IB z h0) MX11_cover (d, 0, 0, n0, κ) (mkF s T T2 c g th u F k pa tu rd tk) 0 [some (.ref z), none, none] [] (gR (mkF s T T2 c g th u F k pa tu rd tk) (.int (aCover T c))) := by
  refine GV.bipush (v := (-2)) dX11_cover_0 (by decide) ?_
  refine GV.istore_n dX11_cover_2 (by decide) rfl ?_
  refine GV.iconst (v := nI 0) dX11_cover_3 (by decide) ?_
  refine GV.istore_n dX11_cover_4 (by decide) rfl ?_
  have h6 : nat (T.1.1 0) < 7 := hw.1.2
  have h64 := (two_n (nat (T.1.1 0)) (by omega)).2
  refine GV.weak [some (.ref z), some (.int (bestF (covB T c) 0)), some (.int (nI 0))] (by simp [leL, sto1, sto2, k2c, bestF]; first | done | rfl) ?_
  suffices hL : ∀ (j i : Nat), i + j = 2 ^ nat (T.1.1 0) → GV (IB z h0) MX11_cover (d, 0, 0, n0, κ) (mkF s T T2 c g th u F k pa tu rd tk) 5 [some (.ref z), some (.int (bestF (covB T c) i)), some (.int (nI i))] [] (gR (mkF s T T2 c g th u F k pa tu rd tk) (.int (aCover T c))) from hL (2 ^ nat (T.1.1 0)) 0 (by omega)
  intro j
  induction j with
  | zero =>
    intro i hij
    refine GV.iload_n dX11_cover_5 rfl ?_
    refine GV.iconst (v := 1) dX11_cover_6 (by decide) ?_
    refine GV.aload_n dX11_cover_7 rfl ?_
    refine GV.getf okX11 3 (fun h H => H.aown.1) fl_X11_25 dX11_cover_8 (by decide) rfl ?_
    refine GV.getf okX8 0 (fun h H => H.aT.1.1) fl_X11_194 dX11_cover_11 (by decide) rfl ?_
    refine GV.ishl dX11_cover_14 ?_
    refine GV.eqi (y := nI (2 ^ nat (T.1.1 0))) (by rw [show T.1.1 0 = nI (nat (T.1.1 0)) from hw.1.1, show nat (nI (nat (T.1.1 0))) = nat (T.1.1 0) from nI_clamp (by omega)]; exact (two_n _ (by omega)).1) ?_
    refine GV.icmp_ge 54 dX11_cover_15 (by decide) (fun _ => ?_) (fun z => absurd (nI_le (by omega) (by omega)) z)
    refine GV.iload_n dX11_cover_54 rfl ?_
    refine GV.iret dX11_cover_55 rfl ?_
    exact ⟨by rw [aCover, show 2 ^ nat (T.1.1 0) = i by omega], rfl⟩
  | succ j ih =>
    intro i hij
    refine GV.iload_n dX11_cover_5 rfl ?_
    refine GV.iconst (v := 1) dX11_cover_6 (by decide) ?_
    refine GV.aload_n dX11_cover_7 rfl ?_
    refine GV.getf okX11 3 (fun h H => H.aown.1) fl_X11_25 dX11_cover_8 (by decide) rfl ?_
    refine GV.getf okX8 0 (fun h H => H.aT.1.1) fl_X11_194 dX11_cover_11 (by decide) rfl ?_
    refine GV.ishl dX11_cover_14 ?_
    refine GV.eqi (y := nI (2 ^ nat (T.1.1 0))) (by rw [show T.1.1 0 = nI (nat (T.1.1 0)) from hw.1.1, show nat (nI (nat (T.1.1 0))) = nat (T.1.1 0) from nI_clamp (by omega)]; exact (two_n _ (by omega)).1) ?_
    refine GV.icmp_ge 54 dX11_cover_15 (by decide) (fun z => absurd z (nI_ge (by omega) (by omega))) (fun _ => ?_)
    refine GV.iload_n dX11_cover_18 rfl ?_
    refine GV.iload_n dX11_cover_19 rfl ?_
    refine GV.cS2 yoX11_isFewer ml_X11_347 st_X11_isFewer dX11_cover_20 (Nat.le_of_ble_eq_true rfl) (by omega) rfl (Nat.le_of_ble_eq_true rfl) (GV.rd (fun _ _ => few_V (by omega))) (GV.rdK ?_)
    refine GV.if_eq 48 dX11_cover_23 (by decide) (fun c23 => ?_) (fun c23 => ?_)
    · skip
      have hst : bestF (covB T c) (i + 1) = bestF (covB T c) i := by rw [bestF, if_neg (fun z => by rw [bI_f c23] at z; exact absurd z.1 (by decide))]
      refine GV.iinc (v := 1) dX11_cover_48 rfl (by decide) (by decide) rfl ?_
      refine GV.goto 5 dX11_cover_51 (by decide) ?_
      refine GV.weak [some (.ref z), some (.int (bestF (covB T c) (i + 1))), some (.int (nI (i + 1)))] (by simp [leL, sto1, sto2, k2c, nI_1, hst]) ?_
      exact ih (i + 1) (by omega)
    · skip
      refine GV.iload_n dX11_cover_26 rfl ?_
      refine GV.aload_n dX11_cover_27 rfl ?_
      refine GV.getf okX11 5 (fun h H => H.aown.1) fl_X11_35 dX11_cover_28 (by decide) rfl ?_
      refine GV.cV0 (ci := 0) yoX0_outMen ml_X11_350 im_X0_outMen se_X0_outMen dX11_cover_31 rfl (fun h H => H.ac.1) (Nat.le_of_ble_eq_true rfl) (by omega) rfl (Nat.le_of_ble_eq_true rfl) (GV.rd (fun h H => outMen_V (by omega) H.ac (sees_litM hp hw).1 (sees_litM hp hw).2)) (GV.rdK ?_)
      refine GV.iand dX11_cover_34 ?_
      refine GV.if_ne 48 dX11_cover_35 (by decide) (fun c35 => ?_) (fun c35 => ?_)
      · skip
        have hst : bestF (covB T c) (i + 1) = bestF (covB T c) i := by rw [bestF, if_neg (fun z => by have h2 := z.2; unfold covB at h2; rw [decide_eq_false c35] at h2; exact absurd h2 (by simp))]
        refine GV.iinc (v := 1) dX11_cover_48 rfl (by decide) (by decide) rfl ?_
        refine GV.goto 5 dX11_cover_51 (by decide) ?_
        refine GV.weak [some (.ref z), some (.int (bestF (covB T c) (i + 1))), some (.int (nI (i + 1)))] (by simp [leL, sto1, sto2, k2c, nI_1, hst]) ?_
        exact ih (i + 1) (by omega)
      · skip
        refine GV.aload_n dX11_cover_38 rfl ?_
        refine GV.iload_n dX11_cover_39 rfl ?_
        refine GV.cV1 (ci := 11) yoX11_allSeeBy ml_X11_353 im_X11_allSeeBy se_X11_allSeeBy dX11_cover_40 rfl (fun h H => H.aown.1) (Nat.le_of_ble_eq_true rfl) (by omega) rfl (Nat.le_of_ble_eq_true rfl) (allSee_F (by omega) hw) (GV.rdK ?_)
        refine GV.if_eq 48 dX11_cover_43 (by decide) (fun c43 => ?_) (fun c43 => ?_)
        · skip
          have hst : bestF (covB T c) (i + 1) = bestF (covB T c) i := by rw [bestF, if_neg (fun z => by have h2 := z.2; unfold covB at h2; rw [bI_f c43, Bool.and_false] at h2; exact absurd h2 (by decide))]
          refine GV.iinc (v := 1) dX11_cover_48 rfl (by decide) (by decide) rfl ?_
          refine GV.goto 5 dX11_cover_51 (by decide) ?_
          refine GV.weak [some (.ref z), some (.int (bestF (covB T c) (i + 1))), some (.int (nI (i + 1)))] (by simp [leL, sto1, sto2, k2c, nI_1, hst]) ?_
          exact ih (i + 1) (by omega)
        · skip
          have hst : bestF (covB T c) (i + 1) = nI i := by rw [bestF, if_pos ⟨bI_t c23, by unfold covB; rw [decide_eq_true c35, bI_t c43]; rfl⟩]
          refine GV.iload_n dX11_cover_46 rfl ?_
          refine GV.istore_n dX11_cover_47 (by decide) rfl ?_
          refine GV.iinc (v := 1) dX11_cover_48 rfl (by decide) (by decide) rfl ?_
          refine GV.goto 5 dX11_cover_51 (by decide) ?_
          refine GV.weak [some (.ref z), some (.int (bestF (covB T c) (i + 1))), some (.int (nI (i + 1)))] (by simp [leL, sto1, sto2, k2c, nI_1, hst]) ?_
          exact ih (i + 1) (by omega)
set_option maxRecDepth 100000 in
set_option maxHeartbeats 1000000 in
theorem last_F {d n0 z : Nat} {κ : Kd} {h0 : Hp} (hd : 4 ≤ d) {s : St} {T T2 : Tx} {c g th u F k pa tu rd tk : St} {x : Int32} (hw : wfT T) : GV (IB z h0) MX11_last (d, 0, 0, n0, κ) (mkF s T T2 c g th u F k pa tu rd tk) 0 [some (.ref z), some (.int (x)), none, none] [] (gR (mkF s T T2 c g th u F k pa tu rd tk) (.int (aLast T c x))) := by
  refine GV.iload_n dX11_last_0 rfl ?_
  refine GV.if_lt 11 dX11_last_1 (by decide) (fun c1 => ?_) (fun c1 => ?_)
  · skip
    have hA : aLast T c x = -1 := by rw [aLast, if_neg (fun z => z.1 c1)]
    refine GV.iconst (v := (-1)) dX11_last_11 (by decide) ?_
    refine GV.iret dX11_last_12 rfl ?_
    exact ⟨by rw [hA], rfl⟩
  · skip
    refine GV.iload_n dX11_last_4 rfl ?_
    refine GV.sipush (v := 360) dX11_last_5 (by decide) ?_
    refine GV.icmp_le 13 dX11_last_8 (by decide) (fun c8 => ?_) (fun c8 => ?_)
    · skip
      have h36 : ¬ 360 < x := Int32.not_lt.mpr c8
      refine GV.bipush (v := (-2)) dX11_last_13 (by decide) ?_
      refine GV.istore_n dX11_last_15 (by decide) rfl ?_
      refine GV.iconst (v := nI 0) dX11_last_16 (by decide) ?_
      refine GV.istore_n dX11_last_17 (by decide) rfl ?_
      have h6 : nat (T.1.1 0) < 7 := hw.1.2
      have h64 := (two_n (nat (T.1.1 0)) (by omega)).2
      refine GV.weak [some (.ref z), some (.int x), some (.int (bestF (lastB T c x) 0)), some (.int (nI 0))] (by simp [leL, sto1, sto2, k2c, bestF]; first | done | rfl) ?_
      suffices hL : ∀ (j i : Nat), i + j = 2 ^ nat (T.1.1 0) → GV (IB z h0) MX11_last (d, 0, 0, n0, κ) (mkF s T T2 c g th u F k pa tu rd tk) 18 [some (.ref z), some (.int x), some (.int (bestF (lastB T c x) i)), some (.int (nI i))] [] (gR (mkF s T T2 c g th u F k pa tu rd tk) (.int (aLast T c x))) from hL (2 ^ nat (T.1.1 0)) 0 (by omega)
      intro j
      induction j with
      | zero =>
        intro i hij
        refine GV.iload_n dX11_last_18 rfl ?_
        refine GV.iconst (v := 1) dX11_last_19 (by decide) ?_
        refine GV.aload_n dX11_last_20 rfl ?_
        refine GV.getf okX11 3 (fun h H => H.aown.1) fl_X11_25 dX11_last_21 (by decide) rfl ?_
        refine GV.getf okX8 0 (fun h H => H.aT.1.1) fl_X11_194 dX11_last_24 (by decide) rfl ?_
        refine GV.ishl dX11_last_27 ?_
        refine GV.eqi (y := nI (2 ^ nat (T.1.1 0))) (by rw [show T.1.1 0 = nI (nat (T.1.1 0)) from hw.1.1, show nat (nI (nat (T.1.1 0))) = nat (T.1.1 0) from nI_clamp (by omega)]; exact (two_n _ (by omega)).1) ?_
        refine GV.icmp_ge 56 dX11_last_28 (by decide) (fun _ => ?_) (fun z => absurd (nI_le (by omega) (by omega)) z)
        refine GV.iload_n dX11_last_56 rfl ?_
        refine GV.iret dX11_last_57 rfl ?_
        exact ⟨by rw [aLast, if_pos ⟨c1, h36⟩, show 2 ^ nat (T.1.1 0) = i by omega], rfl⟩
      | succ j ih =>
        intro i hij
        refine GV.iload_n dX11_last_18 rfl ?_
        refine GV.iconst (v := 1) dX11_last_19 (by decide) ?_
        refine GV.aload_n dX11_last_20 rfl ?_
        refine GV.getf okX11 3 (fun h H => H.aown.1) fl_X11_25 dX11_last_21 (by decide) rfl ?_
        refine GV.getf okX8 0 (fun h H => H.aT.1.1) fl_X11_194 dX11_last_24 (by decide) rfl ?_
        refine GV.ishl dX11_last_27 ?_
        refine GV.eqi (y := nI (2 ^ nat (T.1.1 0))) (by rw [show T.1.1 0 = nI (nat (T.1.1 0)) from hw.1.1, show nat (nI (nat (T.1.1 0))) = nat (T.1.1 0) from nI_clamp (by omega)]; exact (two_n _ (by omega)).1) ?_
        refine GV.icmp_ge 56 dX11_last_28 (by decide) (fun z => absurd z (nI_ge (by omega) (by omega))) (fun _ => ?_)
        refine GV.iload_n dX11_last_31 rfl ?_
        refine GV.iload_n dX11_last_32 rfl ?_
        refine GV.cS2 yoX11_isFewer ml_X11_347 st_X11_isFewer dX11_last_33 (Nat.le_of_ble_eq_true rfl) (by omega) rfl (Nat.le_of_ble_eq_true rfl) (GV.rd (fun _ _ => few_V (by omega))) (GV.rdK ?_)
        refine GV.if_eq 50 dX11_last_36 (by decide) (fun c36 => ?_) (fun c36 => ?_)
        · skip
          have hst : bestF (lastB T c x) (i + 1) = bestF (lastB T c x) i := by rw [bestF, if_neg (fun z => by rw [bI_f c36] at z; exact absurd z.1 (by decide))]
          refine GV.iinc (v := 1) dX11_last_50 rfl (by decide) (by decide) rfl ?_
          refine GV.goto 18 dX11_last_53 (by decide) ?_
          refine GV.weak [some (.ref z), some (.int x), some (.int (bestF (lastB T c x) (i + 1))), some (.int (nI (i + 1)))] (by simp [leL, sto1, sto2, k2c, nI_1, hst]) ?_
          exact ih (i + 1) (by omega)
        · skip
          refine GV.aload_n dX11_last_39 rfl ?_
          refine GV.iload_n dX11_last_40 rfl ?_
          refine GV.cV1 (ci := 11) yoX11_inchesOf ml_X11_359 im_X11_inchesOf se_X11_inchesOf dX11_last_41 rfl (fun h H => H.aown.1) (Nat.le_of_ble_eq_true rfl) (by omega) rfl (Nat.le_of_ble_eq_true rfl) (inchesOf_F (by omega) hw) (GV.rdK ?_)
          refine GV.iload_n dX11_last_44 rfl ?_
          refine GV.icmp_lt 50 dX11_last_45 (by decide) (fun c45 => ?_) (fun c45 => ?_)
          · skip
            have hst : bestF (lastB T c x) (i + 1) = bestF (lastB T c x) i := by rw [bestF, if_neg (fun z => by have h2 := z.2; unfold lastB at h2; rw [decide_eq_false (fun y => y c45)] at h2; exact absurd h2 (by decide))]
            refine GV.iinc (v := 1) dX11_last_50 rfl (by decide) (by decide) rfl ?_
            refine GV.goto 18 dX11_last_53 (by decide) ?_
            refine GV.weak [some (.ref z), some (.int x), some (.int (bestF (lastB T c x) (i + 1))), some (.int (nI (i + 1)))] (by simp [leL, sto1, sto2, k2c, nI_1, hst]) ?_
            exact ih (i + 1) (by omega)
          · skip
            have hst : bestF (lastB T c x) (i + 1) = nI i := by rw [bestF, if_pos ⟨bI_t c36, by unfold lastB; rw [decide_eq_true c45]⟩]
            refine GV.iload_n dX11_last_48 rfl ?_
            refine GV.istore_n dX11_last_49 (by decide) rfl ?_
            refine GV.iinc (v := 1) dX11_last_50 rfl (by decide) (by decide) rfl ?_
            refine GV.goto 18 dX11_last_53 (by decide) ?_
            refine GV.weak [some (.ref z), some (.int x), some (.int (bestF (lastB T c x) (i + 1))), some (.int (nI (i + 1)))] (by simp [leL, sto1, sto2, k2c, nI_1, hst]) ?_
            exact ih (i + 1) (by omega)
    · skip
      have h36 : 360 < x := Int32.not_le.mp c8
      have hA : aLast T c x = -1 := by rw [aLast, if_neg (fun z => z.2 h36)]
      refine GV.iconst (v := (-1)) dX11_last_11 (by decide) ?_
      refine GV.iret dX11_last_12 rfl ?_
      exact ⟨by rw [hA], rfl⟩
