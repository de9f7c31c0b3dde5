/-! The face of BurntEnds: times, lightings, game -/
theorem nlt0 {x : Int32} (h : ¬ x < 1) : ¬ x < 0 := by
  intro z
  apply h
  rw [Int32.lt_iff_toInt_lt] at z ⊢
  have e1 : (0 : Int32).toInt = 0 := by decide
  have e2 : (1 : Int32).toInt = 1 := by decide
  omega
def fewOk (f : Nat → Int32) : Prop := ∀ k, okN (f k) 5
theorem fewOk.note {f : Nat → Int32} {t : Int32} {e : Nat} (h : fewOk f) (he : e < 5) : fewOk (noteF f t (nI e)) := by
  unfold noteF
  split
  · intro k
    unfold upd
    by_cases q : k = nat t
    · rw [if_pos q]
      exact ⟨by rw [show nat (nI e) = e from nI_clamp (by omega)], by rw [show nat (nI e) = e from nI_clamp (by omega)]; exact he⟩
    · rw [if_neg q]
      exact h k
  · exact h
theorem fewOk.note2 {f : Nat → Int32} {t : Int32} {a b : Nat} (h : fewOk f) (he : a + b < 5) : fewOk (noteF f t (nI a + nI b)) := by
  rw [nI_add]
  exact h.note he
theorem fewOk.on {f : Nat → Int32} {t l : Int32} {a e : Nat} (h : fewOk f) (he : a ≤ 2) : fewOk (burnOnF f t (nI a) l e) := by
  unfold burnOnF
  split
  · exact h
  · split
    · exact (h.note2 (by omega)).note2 (by omega)
    · exact h.note2 (by omega)
theorem fewOk.cell {f : Nat → Int32} {x y : Int32} {i j : Nat} (h : fewOk f) (hi : i ≤ 2) (hj : j ≤ 2) : fewOk (cellF x y f i j) := by
  unfold cellF
  split
  · unfold burnSoF burnSo2
    have h1 : fewOk (burnSo1 f x i y j) := by
      unfold burnSo1
      split
      · exact (h.note2 (by omega)).on hi
      · exact h
    split
    · exact (h1.note2 (by omega)).on hj
    · exact h1
  · exact h
theorem fewOk.pair (x y : Int32) : fewOk (pairF x y) := by
  unfold pairF
  have h0 : fewOk (fun _ => 0) := fun _ => (show (0 : Int32) = nI (nat 0) ∧ nat 0 < 5 from ⟨by decide, by decide⟩)
  exact ((((((((h0.cell (by decide) (by decide)).cell (by decide) (by decide)).cell (by decide) (by decide)).cell (by decide) (by decide)).cell (by decide) (by decide)).cell (by decide) (by decide)).cell (by decide) (by decide)).cell (by decide) (by decide)).cell (by decide) (by decide)
theorem few_le {x : Int32} {b : Nat} (h : okN x b) (hb : b ≤ 100) : x ≤ 0 ↔ x = 0 := by
  constructor
  · intro z
    rw [h.1] at z ⊢
    rcases Nat.eq_zero_or_pos (nat x) with q | q
    · rw [q]; rfl
    · exact absurd z (nI_nle0 q (by have := h.2; omega))
  · intro z
    rw [z]
    decide
theorem two_of {T : Tx} {x y : Int32} (hw : wfT T) (h : areTwoB (T.1.1 0) x y = true) : ∃ p q, x = nI p ∧ y = nI q ∧ p < nat (T.1.1 0) ∧ q < nat (T.1.1 0) ∧ p < 6 ∧ q < 6 ∧ nat (nI p) = p ∧ nat (nI q) = q ∧ ¬ p = q := by
  unfold areTwoB at h
  rw [Bool.and_eq_true, Bool.and_eq_true, decide_eq_true_eq] at h
  obtain ⟨p, rfl, p1, p2, p3⟩ := man_of hw h.1.1
  obtain ⟨q, rfl, q1, q2, q3⟩ := man_of hw h.1.2
  exact ⟨p, q, rfl, rfl, p1, q1, p2, q2, p3, q3, fun z => h.2 (by rw [z])⟩
/-- what the Candles of a face are to what is told -/
def okC (T : Tx) (c : St) : Prop := c.1 0 = T.1.1 0 ∧ (∀ p, p < nat (T.1.1 0) → c.2.2.1 2 p = T.1.2.2.1 3 p) ∧ wfC (nat (T.1.1 0)) c
theorem Rm.okC {T : Tx} {s c : St} {r : Nat} (h : Rm T s r c) : okC T c := ⟨h.2.1.1, fun p hp => (h.2.1.2.2.2.2.2.2 p hp).2, h.2.2⟩
theorem and1L (x : Int64) : x &&& 1 = 0 ∨ x &&& 1 = 1 := by
  obtain ⟨n, hn, rfl⟩ : ∃ n, n < 2 ^ 64 ∧ x = lN n := ⟨x.toBitVec.toNat, x.toBitVec.isLt, Int64.toBitVec_inj.mp (by show _ = BitVec.ofNat 64 _; simp)⟩
  rw [wb_a1 hn]
  rcases Nat.mod_two_eq_zero_or_one n with h | h <;> rw [h]
  · exact Or.inl (by decide)
  · exact Or.inr (by decide)
theorem gain_gK {T : Tx} {p t l k : Nat} {J : Int64} (hJ : J = T.1.2.2.1 3 p) (hk : k < l) : gainF J (nI t) l k = gK T p t k := by
  unfold gainF gK gF tJune
  rw [if_pos hk, nI_add, hJ]
  rcases and1L (T.1.2.2.1 3 p >>> ((nI (t + k)).toInt64 &&& 63)) with h | h <;> rw [h] <;> decide
set_option maxRecDepth 100000 in
set_option maxHeartbeats 1000000 in
theorem times_F {d n0 z : Nat} {κ : Kd} {h0 : Hp} (hd : 6 ≤ d) {s : St} {T T2 : Tx} {c g th u F k pa tu rd tk : St} {x y : Int32} (hw : wfT T) : GV (IB z h0) MX11_times (d, 0, 0, n0, κ) (mkF s T T2 c g th u F k pa tu rd tk) 0 [some (.ref z), some (.int (x)), some (.int (y)), none, none, none] [] (fun v S' => v = some (.long (aTimes T c x y)) ∧ ∃ pa' : St, S' = mkF s T T2 c g th u F k pa' tu rd tk) := by
  refine GV.aload_n dX11_times_0 rfl ?_
  refine GV.iload_n dX11_times_1 rfl ?_
  refine GV.iload_n dX11_times_2 rfl ?_
  refine GV.cV2 (ci := 11) yoX11_areTwo ml_X11_286 im_X11_areTwo se_X11_areTwo dX11_times_3 rfl (fun h H => H.aown.1) (Nat.le_of_ble_eq_true rfl) (by omega) rfl (Nat.le_of_ble_eq_true rfl) (areTwo_F (by omega)) (GV.rdK ?_)
  refine GV.if_ne 13 dX11_times_6 (by decide) (fun c6 => ?_) (fun c6 => ?_)
  · skip
    have htwo := bI_t c6
    obtain ⟨p, q, rfl, rfl, hpn, hqn, hp6, hq6, hnp, hnq, hne⟩ := two_of hw htwo
    refine GV.aload_n dX11_times_13 rfl ?_
    refine GV.getf okX11 12 (fun h H => H.aown.1) fl_X11_69 dX11_times_14 (by decide) rfl ?_
    refine GV.aload_n dX11_times_17 rfl ?_
    refine GV.getf okX11 5 (fun h H => H.aown.1) fl_X11_35 dX11_times_18 (by decide) rfl ?_
    refine GV.iload_n dX11_times_21 rfl ?_
    refine GV.cV1 (ci := 0) yoX0_leftOf ml_X11_131 im_X0_leftOf se_X0_leftOf dX11_times_22 rfl (fun h H => H.ac.1) (Nat.le_of_ble_eq_true rfl) (by omega) rfl (Nat.le_of_ble_eq_true rfl) (GV.rd (fun h H => leftOf_V (by omega) H.ac hp6)) (GV.rdK ?_)
    refine GV.aload_n dX11_times_25 rfl ?_
    refine GV.getf okX11 5 (fun h H => H.aown.1) fl_X11_35 dX11_times_26 (by decide) rfl ?_
    refine GV.iload_n dX11_times_29 rfl ?_
    refine GV.cV1 (ci := 0) yoX0_leftOf ml_X11_131 im_X0_leftOf se_X0_leftOf dX11_times_30 rfl (fun h H => H.ac.1) (Nat.le_of_ble_eq_true rfl) (by omega) rfl (Nat.le_of_ble_eq_true rfl) (GV.rd (fun h H => leftOf_V (by omega) H.ac hq6)) (GV.rdK ?_)
    refine GV.cV2 (ci := 5) yoX5_burn ml_X11_315 im_X5_burn se_X5_burn dX11_times_33 rfl (fun h H => H.ap.1) (Nat.le_of_ble_eq_true rfl) (by omega) rfl (Nat.le_of_ble_eq_true rfl) (GV.lift (P1 := fun v S' => v = none ∧ ∃ pa' : St, S' = mkF s T T2 c g th u F k pa' tu rd tk ∧ pa'.2.1 0 = pairF (cLeft c p) (cLeft c q)) (fun h H => pair_V (by omega) H.ap) (fun h v h' H q => (q.2.1.elim fun pa' w => ⟨_, ⟨q.1, pa', rfl, w.2⟩, H.wp w.1 q.2.2⟩))) ?_
    rintro _ _ ⟨rfl, pa1, rfl, hpa⟩
    refine GV.lconst (v := 0) dX11_times_36 (by decide) ?_
    refine GV.lstore_n dX11_times_37 (by decide) rfl ?_
    refine GV.iconst (v := nI 1) dX11_times_38 (by decide) ?_
    refine GV.istore dX11_times_39 (by decide) rfl ?_
    refine GV.weak [some (.ref z), some (.int (nI p)), some (.int (nI q)), some (.long (timesF (pairF (cLeft c p) (cLeft c q)) 0)), none, some (.int (nI (0 + 1)))] (by simp [leL, sto1, sto2, k2c, timesF]; first | done | rfl) ?_
    suffices hL : ∀ (j i : Nat), i + j = 60 → GV (IB z h0) MX11_times (d, 0, 0, n0, κ) (mkF s T T2 c g th u F k pa1 tu rd tk) 41 [some (.ref z), some (.int (nI p)), some (.int (nI q)), some (.long (timesF (pairF (cLeft c p) (cLeft c q)) i)), none, some (.int (nI (i + 1)))] [] (fun v S' => v = some (.long (aTimes T c (nI p) (nI q))) ∧ ∃ pa' : St, S' = mkF s T T2 c g th u F k pa' tu rd tk) from hL 60 0 (by omega)
    intro j
    induction j with
    | zero =>
      intro i hij
      have hin : i = 60 := by omega
      subst hin
      refine GV.iload dX11_times_41 rfl ?_
      refine GV.aload_n dX11_times_43 rfl ?_
      refine GV.getf okX11 12 (fun h H => H.aown.1) fl_X11_69 dX11_times_44 (by decide) rfl ?_
      refine GV.getf okX5 0 (fun h H => H.ap.1) fl_X11_319 dX11_times_47 (by decide) rfl ?_
      refine GV.alen (v := nI 61) (fun h H => C5_r0 H.ap) dX11_times_50 (by decide) rfl ?_
      refine GV.icmp_ge 80 dX11_times_51 (by decide) (fun _ => ?_) (fun z => absurd (nI_le (by omega) (by omega)) z)
      refine GV.lload_n dX11_times_80 rfl ?_
      refine GV.lret dX11_times_81 rfl ?_
      exact ⟨by rw [aTimes, if_pos htwo, hnp, hnq], _, rfl⟩
    | succ j ih =>
      intro i hij
      refine GV.iload dX11_times_41 rfl ?_
      refine GV.aload_n dX11_times_43 rfl ?_
      refine GV.getf okX11 12 (fun h H => H.aown.1) fl_X11_69 dX11_times_44 (by decide) rfl ?_
      refine GV.getf okX5 0 (fun h H => H.ap.1) fl_X11_319 dX11_times_47 (by decide) rfl ?_
      refine GV.alen (v := nI 61) (fun h H => C5_r0 H.ap) dX11_times_50 (by decide) rfl ?_
      refine GV.icmp_ge 80 dX11_times_51 (by decide) (fun z => absurd z (nI_ge (a := i + 1) (b := 61) (by omega) (by omega))) (fun _ => ?_)
      refine GV.aload_n dX11_times_54 rfl ?_
      refine GV.getf okX11 12 (fun h H => H.aown.1) fl_X11_69 dX11_times_55 (by decide) rfl ?_
      refine GV.getf okX5 0 (fun h H => H.ap.1) fl_X11_319 dX11_times_58 (by decide) rfl ?_
      refine GV.iload dX11_times_61 rfl ?_
      refine GV.ald (fun h H => C5_r0 H.ap) dX11_times_63 (rfl) (by omega) (by decide) ?_
      refine GV.if_le 74 dX11_times_64 (by decide) (fun c64 => ?_) (fun c64 => ?_)
      · skip
        have q64 : (pairF (cLeft c p) (cLeft c q)) (i + 1) = 0 := (few_le (fewOk.pair _ _ _) (by decide)).mp (by rw [hpa] at c64; exact c64)
        refine GV.weak [some (.ref z), some (.int (nI p)), some (.int (nI q)), some (.long (timesF (pairF (cLeft c p) (cLeft c q)) (i + 1))), none, some (.int (nI (i + 1)))] (by simp [leL, timesF, q64]) ?_
        refine GV.iinc (v := 1) dX11_times_74 rfl (by decide) (by decide) rfl ?_
        refine GV.goto 41 dX11_times_77 (by decide) ?_
        refine GV.weak [some (.ref z), some (.int (nI p)), some (.int (nI q)), some (.long (timesF (pairF (cLeft c p) (cLeft c q)) (i + 1))), none, some (.int (nI ((i + 1) + 1)))] (by simp [leL, sto1, sto2, k2c, nI_1]) ?_
        exact ih (i + 1) (by omega)
      · skip
        have q64 : ¬ (pairF (cLeft c p) (cLeft c q)) (i + 1) = 0 := fun z => c64 (by rw [hpa, z]; decide)
        refine GV.lload_n dX11_times_67 rfl ?_
        refine GV.lconst (v := 1) dX11_times_68 (by decide) ?_
        refine GV.iload dX11_times_69 rfl ?_
        refine GV.lshl dX11_times_71 ?_
        refine GV.lor dX11_times_72 ?_
        refine GV.eql (y := timesF (pairF (cLeft c p) (cLeft c q)) (i + 1)) (by rw [timesF, if_neg q64]) ?_
        refine GV.lstore_n dX11_times_73 (by decide) rfl ?_
        refine GV.iinc (v := 1) dX11_times_74 rfl (by decide) (by decide) rfl ?_
        refine GV.goto 41 dX11_times_77 (by decide) ?_
        refine GV.weak [some (.ref z), some (.int (nI p)), some (.int (nI q)), some (.long (timesF (pairF (cLeft c p) (cLeft c q)) (i + 1))), none, some (.int (nI ((i + 1) + 1)))] (by simp [leL, sto1, sto2, k2c, nI_1]) ?_
        exact ih (i + 1) (by omega)
  · skip
    have hno := bI_f c6
    refine GV.ldc2 kc_X11_301 dX11_times_9 ?_
    refine GV.lret dX11_times_12 rfl ?_
    exact ⟨by rw [aTimes, if_neg (by rw [hno]; decide)], _, rfl⟩
set_option maxRecDepth 100000 in
set_option maxHeartbeats 1000000 in
theorem lightings_F {d n0 z : Nat} {κ : Kd} {h0 : Hp} (hd : 6 ≤ d) {s : St} {T T2 : Tx} {c g th u F k pa tu rd tk : St} {x y w : Int32} (hw : wfT T) : GV (IB z h0) MX11_lightings (d, 0, 0, n0, κ) (mkF s T T2 c g th u F k pa tu rd tk) 0 [some (.ref z), some (.int (x)), some (.int (y)), some (.int (w))] [] (fun v S' => v = some (.int (aLightings T c x y w)) ∧ ∃ pa' : St, S' = mkF s T T2 c g th u F k pa' tu rd tk) := by
  refine GV.aload_n dX11_lightings_0 rfl ?_
  refine GV.iload_n dX11_lightings_1 rfl ?_
  refine GV.iload_n dX11_lightings_2 rfl ?_
  refine GV.cV2 (ci := 11) yoX11_areTwo ml_X11_286 im_X11_areTwo se_X11_areTwo dX11_lightings_3 rfl (fun h H => H.aown.1) (Nat.le_of_ble_eq_true rfl) (by omega) rfl (Nat.le_of_ble_eq_true rfl) (areTwo_F (by omega)) (GV.rdK ?_)
  refine GV.if_eq 20 dX11_lightings_6 (by decide) (fun c6 => ?_) (fun c6 => ?_)
  · skip
    have hno := bI_f c6
    have hA : aLightings T c x y w = -1 := by rw [aLightings, if_neg (fun z => by rw [hno] at z; exact absurd z.1 (by decide))]
    refine GV.iconst (v := (-1)) dX11_lightings_20 (by decide) ?_
    refine GV.iret dX11_lightings_21 rfl ?_
    exact ⟨by rw [hA], _, rfl⟩
  · skip
    have htwo := bI_t c6
    obtain ⟨p, q, rfl, rfl, hpn, hqn, hp6, hq6, hnp, hnq, hne⟩ := two_of hw htwo
    refine GV.iload_n dX11_lightings_9 rfl ?_
    refine GV.iconst (v := 1) dX11_lightings_10 (by decide) ?_
    refine GV.icmp_lt 20 dX11_lightings_11 (by decide) (fun c11 => ?_) (fun c11 => ?_)
    · skip
      have hA : aLightings T c (nI p) (nI q) w = -1 := by rw [aLightings, if_neg (fun z => z.2.1 c11)]
      refine GV.iconst (v := (-1)) dX11_lightings_20 (by decide) ?_
      refine GV.iret dX11_lightings_21 rfl ?_
      exact ⟨by rw [hA], _, rfl⟩
    · skip
      refine GV.iload_n dX11_lightings_14 rfl ?_
      refine GV.bipush (v := 60) dX11_lightings_15 (by decide) ?_
      refine GV.icmp_le 22 dX11_lightings_17 (by decide) (fun c17 => ?_) (fun c17 => ?_)
      · skip
        have h60 : ¬ 60 < w := Int32.not_lt.mpr c17
        obtain ⟨t, ht, rfl⟩ := nI_of (x := w) (nlt0 c11)
        have ht60 : t ≤ 60 := Nat.not_lt.mp fun z => h60 (nI_lt (a := 60) z ht)
        have hnt : nat (nI t) = t := nI_clamp ht
        have hA : aLightings T c (nI p) (nI q) (nI t) = (if pairF (cLeft c p) (cLeft c q) t = 0 then -2 else pairF (cLeft c p) (cLeft c q) t) := by rw [aLightings, if_pos ⟨htwo, c11, h60⟩, hnp, hnq, hnt]
        refine GV.aload_n dX11_lightings_22 rfl ?_
        refine GV.getf okX11 12 (fun h H => H.aown.1) fl_X11_69 dX11_lightings_23 (by decide) rfl ?_
        refine GV.aload_n dX11_lightings_26 rfl ?_
        refine GV.getf okX11 5 (fun h H => H.aown.1) fl_X11_35 dX11_lightings_27 (by decide) rfl ?_
        refine GV.iload_n dX11_lightings_30 rfl ?_
        refine GV.cV1 (ci := 0) yoX0_leftOf ml_X11_131 im_X0_leftOf se_X0_leftOf dX11_lightings_31 rfl (fun h H => H.ac.1) (Nat.le_of_ble_eq_true rfl) (by omega) rfl (Nat.le_of_ble_eq_true rfl) (GV.rd (fun h H => leftOf_V (by omega) H.ac hp6)) (GV.rdK ?_)
        refine GV.aload_n dX11_lightings_34 rfl ?_
        refine GV.getf okX11 5 (fun h H => H.aown.1) fl_X11_35 dX11_lightings_35 (by decide) rfl ?_
        refine GV.iload_n dX11_lightings_38 rfl ?_
        refine GV.cV1 (ci := 0) yoX0_leftOf ml_X11_131 im_X0_leftOf se_X0_leftOf dX11_lightings_39 rfl (fun h H => H.ac.1) (Nat.le_of_ble_eq_true rfl) (by omega) rfl (Nat.le_of_ble_eq_true rfl) (GV.rd (fun h H => leftOf_V (by omega) H.ac hq6)) (GV.rdK ?_)
        refine GV.cV2 (ci := 5) yoX5_burn ml_X11_315 im_X5_burn se_X5_burn dX11_lightings_42 rfl (fun h H => H.ap.1) (Nat.le_of_ble_eq_true rfl) (by omega) rfl (Nat.le_of_ble_eq_true rfl) (GV.lift (P1 := fun v S' => v = none ∧ ∃ pa' : St, S' = mkF s T T2 c g th u F k pa' tu rd tk ∧ pa'.2.1 0 = pairF (cLeft c p) (cLeft c q)) (fun h H => pair_V (by omega) H.ap) (fun h v h' H q => (q.2.1.elim fun pa' w => ⟨_, ⟨q.1, pa', rfl, w.2⟩, H.wp w.1 q.2.2⟩))) ?_
        rintro _ _ ⟨rfl, pa1, rfl, hpa⟩
        refine GV.aload_n dX11_lightings_45 rfl ?_
        refine GV.getf okX11 12 (fun h H => H.aown.1) fl_X11_69 dX11_lightings_46 (by decide) rfl ?_
        refine GV.getf okX5 0 (fun h H => H.ap.1) fl_X11_319 dX11_lightings_49 (by decide) rfl ?_
        refine GV.iload_n dX11_lightings_52 rfl ?_
        refine GV.ald (fun h H => C5_r0 H.ap) dX11_lightings_53 (rfl) (by omega) (by decide) ?_
        refine GV.if_le 69 dX11_lightings_54 (by decide) (fun c54 => ?_) (fun c54 => ?_)
        · skip
          have q54 : pairF (cLeft c p) (cLeft c q) t = 0 := (few_le (fewOk.pair _ _ _) (by decide)).mp (by rw [hpa] at c54; exact c54)
          rw [if_pos q54] at hA
          refine GV.bipush (v := (-2)) dX11_lightings_69 (by decide) ?_
          refine GV.iret dX11_lightings_71 rfl ?_
          exact ⟨by rw [hA], _, rfl⟩
        · skip
          have q54 : ¬ pairF (cLeft c p) (cLeft c q) t = 0 := fun z => c54 (by rw [hpa, z]; decide)
          rw [if_neg q54] at hA
          refine GV.aload_n dX11_lightings_57 rfl ?_
          refine GV.getf okX11 12 (fun h H => H.aown.1) fl_X11_69 dX11_lightings_58 (by decide) rfl ?_
          refine GV.getf okX5 0 (fun h H => H.ap.1) fl_X11_319 dX11_lightings_61 (by decide) rfl ?_
          refine GV.iload_n dX11_lightings_64 rfl ?_
          refine GV.ald (fun h H => C5_r0 H.ap) dX11_lightings_65 (rfl) (by omega) (by decide) ?_
          refine GV.eqi (congrFun hpa t) ?_
          refine GV.goto 71 dX11_lightings_66 (by decide) ?_
          refine GV.iret dX11_lightings_71 rfl ?_
          exact ⟨by rw [hA], _, rfl⟩
      · skip
        have h60 : 60 < w := Int32.not_le.mp c17
        have hA : aLightings T c (nI p) (nI q) w = -1 := by rw [aLightings, if_neg (fun z => z.2.2 h60)]
        refine GV.iconst (v := (-1)) dX11_lightings_20 (by decide) ?_
        refine GV.iret dX11_lightings_21 rfl ?_
        exact ⟨by rw [hA], _, rfl⟩
set_option maxRecDepth 100000 in
set_option maxHeartbeats 1000000 in
theorem game_F {d n0 z : Nat} {κ : Kd} {h0 : Hp} (hd : 7 ≤ d) {s : St} {T T2 : Tx} {c g th u F k pa tu rd tk : St} {x y : Int32} (hw : wfT T) (hC : okC T c) : GV (IB z h0) MX11_game (d, 0, 0, n0, κ) (mkF s T T2 c g th u F k pa tu rd tk) 0 [some (.ref z), some (.int (x)), some (.int (y))] [] (fun v S' => v = some (.int (aGame T c x y)) ∧ ∃ tu' : St, S' = mkF s T T2 c g th u F k pa tu' rd tk) := by
  refine GV.aload_n dX11_game_0 rfl ?_
  refine GV.iload_n dX11_game_1 rfl ?_
  refine GV.cV1 (ci := 11) yoX11_isPerson ml_X11_120 im_X11_isPerson se_X11_isPerson dX11_game_2 rfl (fun h H => H.aown.1) (Nat.le_of_ble_eq_true rfl) (by omega) rfl (Nat.le_of_ble_eq_true rfl) (isPerson_F (by omega)) (GV.rdK ?_)
  refine GV.if_eq 17 dX11_game_5 (by decide) (fun c5 => ?_) (fun c5 => ?_)
  · skip
    have hno := bI_f c5
    have hA : aGame T c x y = -2147483648 := by rw [aGame, if_neg (fun z => by rw [hno] at z; exact absurd z.1 (by decide))]
    refine GV.ldcw kc_X11_324 dX11_game_17 ?_
    refine GV.iret dX11_game_20 rfl ?_
    exact ⟨by rw [hA], _, rfl⟩
  · skip
    have hman := bI_t c5
    obtain ⟨p, rfl, hpn, hp6, hnp⟩ := man_of hw hman
    obtain ⟨I0, t0, l0, e1, e2, e3, e4, e5, e6⟩ := hC.2.2 p hpn
    obtain ⟨l, hl⟩ : ∃ l, l = I0 - t0 - l0 := ⟨_, rfl⟩
    have hlf : cLeft c p = nI l := by unfold cLeft; rw [e1, e2, e3, nI_subI (by omega), nI_subI (by omega), hl]
    have hnl : nat (cLeft c p) = l := by rw [hlf]; exact nI_clamp (by omega)
    have hnt : nat (c.2.1 3 p) = t0 := by rw [e2]; exact nI_clamp (by omega)
    have hg : (gameP (gainF (c.2.2.1 2 p) (c.2.1 3 p) l) l) = gameP (gK T p t0) l := game_congr (fun k hk => by rw [e2]; exact gain_gK (hC.2.1 p hpn) hk)
    have hB : ∀ y : Int32, (y = 0 ∨ y = 1) → aGame T c (nI p) y = (if y = 0 then (gameP (gK T p t0) l).1 else (gameP (gK T p t0) l).2) := fun y hy => by rw [aGame, if_pos ⟨hman, hy⟩, hnp, hnt, hnl]
    refine GV.iload_n dX11_game_8 rfl ?_
    refine GV.if_eq 21 dX11_game_9 (by decide) (fun c9 => ?_) (fun c9 => ?_)
    · skip
      have hA := hB y (Or.inl c9)
      rw [if_pos c9] at hA
      refine GV.aload_n dX11_game_21 rfl ?_
      refine GV.getf okX11 13 (fun h H => H.aown.1) fl_X11_76 dX11_game_22 (by decide) rfl ?_
      refine GV.aload_n dX11_game_25 rfl ?_
      refine GV.getf okX11 5 (fun h H => H.aown.1) fl_X11_35 dX11_game_26 (by decide) rfl ?_
      refine GV.getf okX0 2 (fun h H => H.ac.1) fl_X11_325 dX11_game_29 (by decide) rfl ?_
      refine GV.iload_n dX11_game_32 rfl ?_
      refine GV.jld (fun h H => C0_r2 H.ac) dX11_game_33 (rfl) (hp6) (by decide) ?_
      refine GV.aload_n dX11_game_34 rfl ?_
      refine GV.getf okX11 5 (fun h H => H.aown.1) fl_X11_35 dX11_game_35 (by decide) rfl ?_
      refine GV.getf okX0 3 (fun h H => H.ac.1) fl_X11_137 dX11_game_38 (by decide) rfl ?_
      refine GV.iload_n dX11_game_41 rfl ?_
      refine GV.ald (fun h H => C0_r3 H.ac) dX11_game_42 (rfl) (hp6) (by decide) ?_
      refine GV.aload_n dX11_game_43 rfl ?_
      refine GV.getf okX11 5 (fun h H => H.aown.1) fl_X11_35 dX11_game_44 (by decide) rfl ?_
      refine GV.iload_n dX11_game_47 rfl ?_
      refine GV.cV1 (ci := 0) yoX0_leftOf ml_X11_131 im_X0_leftOf se_X0_leftOf dX11_game_48 rfl (fun h H => H.ac.1) (Nat.le_of_ble_eq_true rfl) (by omega) rfl (Nat.le_of_ble_eq_true rfl) (GV.rd (fun h H => leftOf_V (by omega) H.ac hp6)) (GV.rdK ?_)
      refine GV.eqi hlf ?_
      refine GV.cV3 (ci := 9) yoX9_play ml_X11_329 im_X9_play se_X9_play dX11_game_51 rfl (fun h H => H.an.1) (Nat.le_of_ble_eq_true rfl) (by omega) rfl (Nat.le_of_ble_eq_true rfl) (GV.lift (P1 := fun v S' => v = none ∧ ∃ tu' : St, S' = mkF s T T2 c g th u F k pa tu' rd tk ∧ tu'.1 0 = (gameP (gainF (c.2.2.1 2 p) (c.2.1 3 p) l) l).1 ∧ tu'.1 1 = (gameP (gainF (c.2.2.1 2 p) (c.2.1 3 p) l) l).2) (fun h H => play_V (l := l) (by omega) H.an (by omega)) (fun h v h' H q => (q.2.1.elim fun _ w => w.elim fun _ w => w.elim fun _ w => w.elim fun _ w => w.elim fun tu' w => ⟨_, ⟨q.1, tu', rfl, w.2.2.2.2.2.1, w.2.2.2.2.2.2⟩, H.wn w.1 q.2.2⟩))) ?_
      rintro _ _ ⟨rfl, tu1, rfl, ht1, ht2⟩
      refine GV.iload_n dX11_game_54 rfl ?_
      refine GV.if_ne 68 dX11_game_55 (by decide) (fun c55 => ?_) (fun c55 => ?_)
      · skip
        refine GV.aload_n dX11_game_68 rfl ?_
        refine GV.getf okX11 13 (fun h H => H.aown.1) fl_X11_76 dX11_game_69 (by decide) rfl ?_
        refine GV.getf okX9 1 (fun h H => H.an.1) fl_X11_336 dX11_game_72 (by decide) rfl ?_
        refine GV.iret dX11_game_75 rfl ?_
        first
        | exact absurd c9 c55
        | exact absurd c55 c9
        | (refine ⟨?_, _, rfl⟩; rw [hA, ← hg, ht1]; done)
        | (refine ⟨?_, _, rfl⟩; rw [hA, ← hg, ht2]; done)
      · skip
        refine GV.aload_n dX11_game_58 rfl ?_
        refine GV.getf okX11 13 (fun h H => H.aown.1) fl_X11_76 dX11_game_59 (by decide) rfl ?_
        refine GV.getf okX9 0 (fun h H => H.an.1) fl_X11_333 dX11_game_62 (by decide) rfl ?_
        refine GV.goto 75 dX11_game_65 (by decide) ?_
        refine GV.iret dX11_game_75 rfl ?_
        first
        | exact absurd c9 c55
        | exact absurd c55 c9
        | (refine ⟨?_, _, rfl⟩; rw [hA, ← hg, ht1]; done)
        | (refine ⟨?_, _, rfl⟩; rw [hA, ← hg, ht2]; done)
    · skip
      refine GV.iload_n dX11_game_12 rfl ?_
      refine GV.iconst (v := 1) dX11_game_13 (by decide) ?_
      refine GV.icmp_eq 21 dX11_game_14 (by decide) (fun c14 => ?_) (fun c14 => ?_)
      · skip
        have hA := hB y (Or.inr c14)
        rw [if_neg c9] at hA
        refine GV.aload_n dX11_game_21 rfl ?_
        refine GV.getf okX11 13 (fun h H => H.aown.1) fl_X11_76 dX11_game_22 (by decide) rfl ?_
        refine GV.aload_n dX11_game_25 rfl ?_
        refine GV.getf okX11 5 (fun h H => H.aown.1) fl_X11_35 dX11_game_26 (by decide) rfl ?_
        refine GV.getf okX0 2 (fun h H => H.ac.1) fl_X11_325 dX11_game_29 (by decide) rfl ?_
        refine GV.iload_n dX11_game_32 rfl ?_
        refine GV.jld (fun h H => C0_r2 H.ac) dX11_game_33 (rfl) (hp6) (by decide) ?_
        refine GV.aload_n dX11_game_34 rfl ?_
        refine GV.getf okX11 5 (fun h H => H.aown.1) fl_X11_35 dX11_game_35 (by decide) rfl ?_
        refine GV.getf okX0 3 (fun h H => H.ac.1) fl_X11_137 dX11_game_38 (by decide) rfl ?_
        refine GV.iload_n dX11_game_41 rfl ?_
        refine GV.ald (fun h H => C0_r3 H.ac) dX11_game_42 (rfl) (hp6) (by decide) ?_
        refine GV.aload_n dX11_game_43 rfl ?_
        refine GV.getf okX11 5 (fun h H => H.aown.1) fl_X11_35 dX11_game_44 (by decide) rfl ?_
        refine GV.iload_n dX11_game_47 rfl ?_
        refine GV.cV1 (ci := 0) yoX0_leftOf ml_X11_131 im_X0_leftOf se_X0_leftOf dX11_game_48 rfl (fun h H => H.ac.1) (Nat.le_of_ble_eq_true rfl) (by omega) rfl (Nat.le_of_ble_eq_true rfl) (GV.rd (fun h H => leftOf_V (by omega) H.ac hp6)) (GV.rdK ?_)
        refine GV.eqi hlf ?_
        refine GV.cV3 (ci := 9) yoX9_play ml_X11_329 im_X9_play se_X9_play dX11_game_51 rfl (fun h H => H.an.1) (Nat.le_of_ble_eq_true rfl) (by omega) rfl (Nat.le_of_ble_eq_true rfl) (GV.lift (P1 := fun v S' => v = none ∧ ∃ tu' : St, S' = mkF s T T2 c g th u F k pa tu' rd tk ∧ tu'.1 0 = (gameP (gainF (c.2.2.1 2 p) (c.2.1 3 p) l) l).1 ∧ tu'.1 1 = (gameP (gainF (c.2.2.1 2 p) (c.2.1 3 p) l) l).2) (fun h H => play_V (l := l) (by omega) H.an (by omega)) (fun h v h' H q => (q.2.1.elim fun _ w => w.elim fun _ w => w.elim fun _ w => w.elim fun _ w => w.elim fun tu' w => ⟨_, ⟨q.1, tu', rfl, w.2.2.2.2.2.1, w.2.2.2.2.2.2⟩, H.wn w.1 q.2.2⟩))) ?_
        rintro _ _ ⟨rfl, tu1, rfl, ht1, ht2⟩
        refine GV.iload_n dX11_game_54 rfl ?_
        refine GV.if_ne 68 dX11_game_55 (by decide) (fun c55 => ?_) (fun c55 => ?_)
        · skip
          refine GV.aload_n dX11_game_68 rfl ?_
          refine GV.getf okX11 13 (fun h H => H.aown.1) fl_X11_76 dX11_game_69 (by decide) rfl ?_
          refine GV.getf okX9 1 (fun h H => H.an.1) fl_X11_336 dX11_game_72 (by decide) rfl ?_
          refine GV.iret dX11_game_75 rfl ?_
          first
          | exact absurd c9 c55
          | exact absurd c55 c9
          | (refine ⟨?_, _, rfl⟩; rw [hA, ← hg, ht1]; done)
          | (refine ⟨?_, _, rfl⟩; rw [hA, ← hg, ht2]; done)
        · skip
          refine GV.aload_n dX11_game_58 rfl ?_
          refine GV.getf okX11 13 (fun h H => H.aown.1) fl_X11_76 dX11_game_59 (by decide) rfl ?_
          refine GV.getf okX9 0 (fun h H => H.an.1) fl_X11_333 dX11_game_62 (by decide) rfl ?_
          refine GV.goto 75 dX11_game_65 (by decide) ?_
          refine GV.iret dX11_game_75 rfl ?_
          first
          | exact absurd c9 c55
          | exact absurd c55 c9
          | (refine ⟨?_, _, rfl⟩; rw [hA, ← hg, ht1]; done)
          | (refine ⟨?_, _, rfl⟩; rw [hA, ← hg, ht2]; done)
      · skip
        have hA : aGame T c (nI p) y = -2147483648 := by rw [aGame, if_neg (fun z => z.2.elim c9 c14)]
        refine GV.ldcw kc_X11_324 dX11_game_17 ?_
        refine GV.iret dX11_game_20 rfl ?_
        exact ⟨by rw [hA], _, rfl⟩
