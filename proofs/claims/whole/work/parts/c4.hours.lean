/-! The face of BurntEnds: HOURS -/
theorem IB.apk {z : Nat} {h0 h : Hp} {s : St} {T T2 : Tx} {c g th u F k pa tu rd tk : St} (H : IB z h0 (mkF s T T2 c g th u F k pa tu rd tk) h) : z + 84 < s.2.2.2 3 ∨ s.2.2.2 3 + 19 ≤ z + 84 := by
  have sp : (s.2.2.2 3 = z + 25 ∧ s.2.2.2 4 = z + 44) ∨ (s.2.2.2 3 = z + 44 ∧ s.2.2.2 4 = z + 25) := H.1.2.1
  omega
theorem passS_kI {T : Tx} {k c : St} {t : Nat} {w men : Int32} {look : Bool} : passS T (kInit k t w).1 men look c = passS T (kW w) men look c := by
  unfold passS
  simp [kInit, kW, upd]
theorem cShorten_1 {c : St} {p : Nat} {e b : Int32} : (cShorten c p e b).1 = c.1 := cShort_out.1
theorem burnE_1 {T : Tx} {nl : Int32} {w : Bool} {i : Nat} {e : Int32} {c : St} : (burnE T nl w i e c).1 = c.1 := by
  unfold burnE
  split
  · exact cShorten_1
  · rfl
theorem burnF_1 {T : Tx} {men unb nl : Int32} {w : Bool} : ∀ (k i : Nat) (c : St), (burnF T men unb nl w k i c).1 = c.1 := by
  intro k
  induction k with
  | zero => intro i c; rfl
  | succ k ih =>
    intro i c
    rw [burnF, ih]
    unfold burnP
    split
    · rw [burnE_1, burnE_1]
    · rfl
theorem shineF_0 {T : Tx} {w : Bool} {l : Int32} : ∀ (k i : Nat) (c : St) (j : Nat), ¬ j = 8 → (shineF T w l k i c).1 j = c.1 j := by
  intro k
  induction k with
  | zero => intro i c j _; rfl
  | succ k ih =>
    intro i c j hj
    rw [shineF, ih _ _ _ hj]
    have h1 : (seenS T l i c).1 = c.1 := by unfold seenS; split <;> rfl
    unfold glowS
    split
    · rw [h1]
    · show upd _ 8 _ j = _
      rw [upd_ne hj, h1]
theorem passS_0 {T : Tx} {k : Nat → Int32} {men : Int32} {look : Bool} {c : St} : (passS T k men look c).1 0 = c.1 0 := by
  have a : (windK (k 1) T (cLB T men (k 3) c)).2.1 0 = c.1 0 := by rw [windK_0 _ _ _ 0 (by decide), cLB_0 _ _ _ _ 0 (by decide)]
  unfold passS hourS
  simp only
  show upd _ 7 _ 0 = _
  rw [upd_ne (by decide), burnF_1]
  split
  · rw [shineF_0 _ _ _ _ (by decide), a]
  · exact a
theorem hoursS_0 {T : Tx} {k : Nat → Int32} {men : Int32} {look : Bool} : ∀ (n : Nat) (c : St), (hoursS T k men look n c).1 0 = c.1 0 := by
  intro n
  induction n with
  | zero => intro c; rfl
  | succ n ih => intro c; rw [hoursS, ih, passS_0]
theorem cCopy_0 {th c : St} : (cCopy th c).1 0 = c.1 0 ∧ (cCopy th c).1 7 = c.1 7 ∧ (cCopy th c).1 8 = c.1 8 ∧ (cCopy th c).1 10 = c.1 10 := by
  unfold cCopy
  simp [upd]
theorem nat_nn {x : Int32} (h : ¬ x < 0) : ∃ n : Nat, x = nI n ∧ n < 2147483648 ∧ nat (nI n) = n := by
  have h0 : (0 : Int32).toInt ≤ x.toInt := Int32.le_iff_toInt_le.mp (Int32.not_lt.mp h)
  have h1 : (0 : Int32).toInt = 0 := rfl
  have h2 := x.toInt_lt
  have h3 : (x.toInt.toNat : Int) = x.toInt := Int.toNat_of_nonneg (by omega)
  have h4 : x = nI x.toInt.toNat := by
    apply Int32.toInt_inj.mp
    show x.toInt = (Int32.ofNat x.toInt.toNat).toInt
    rw [show Int32.ofNat x.toInt.toNat = Int32.ofInt (x.toInt.toNat : Int) from rfl, h3, Int32.ofInt_toInt]
  exact ⟨x.toInt.toNat, h4, by omega, nI_clamp (by omega)⟩
theorem nI_le_of {n b : Nat} (hn : n < 2147483648) (hb : b < 2147483648) (h : ¬ nI b < nI n) : n ≤ b := (Int32.ofNat_le_ofNat (by omega) (by omega)).mp (Int32.not_lt.mp h)
set_option maxRecDepth 100000 in
set_option maxHeartbeats 2000000 in
theorem go_loop {d n0 z : Nat} {κ : Kd} {h0 : Hp} (hd : 8 ≤ d) {s : St} {T T2 : Tx} {c g th u F k pa tu rd tk : St} {n : Nat} (hw : wfT T) (hn : n ≤ 10000) : ∀ (j i : Nat) (e : St), i + j = n → e.1 0 = T.1.1 0 → GV (IB z h0) MX11_go (d, 0, 0, n0, κ) (mkF s T T2 e g th u F (kInit k (s.2.2.2 3) 1) pa tu rd tk) 53 [some (.ref z), some (.int (nI n)), some (.int (nI i))] [] (gW (some (.int ((hoursS T (kW 1) 63 true j e).1 7))) (mkF s T T2 (hoursS T (kW 1) 63 true j e) g th u F (kInit k (s.2.2.2 3) 1) pa tu rd tk)) := by
  intro j
  induction j with
  | zero =>
    intro i e hij he
    have hin : i = n := by omega
    subst hin
    refine GV.iload_n dX11_go_53 rfl ?_
    refine GV.iload_n dX11_go_54 rfl ?_
    refine GV.icmp_ge 78 dX11_go_55 (by decide) (fun _ => ?_) (fun z => absurd (nI_le (Nat.le_refl _) (by omega)) z)
    refine GV.aload_n dX11_go_78 rfl ?_
    refine GV.getf okX11 5 (fun h H => H.aown.1) fl_X11_35 dX11_go_79 (by decide) rfl ?_
    refine GV.getf okX0 7 (fun h H => H.ac.1) fl_X11_215 dX11_go_82 (by decide) rfl ?_
    refine GV.iret dX11_go_85 rfl ?_
    exact ⟨rfl, rfl⟩
  | succ j ih =>
    intro i e hij he
    refine GV.iload_n dX11_go_53 rfl ?_
    refine GV.iload_n dX11_go_54 rfl ?_
    refine GV.icmp_ge 78 dX11_go_55 (by decide) (fun z => absurd z (nI_ge (by omega) (by omega))) (fun _ => ?_)
    refine GV.aload_n dX11_go_58 rfl ?_
    refine GV.getf okX11 9 (fun h H => H.aown.1) fl_X11_48 dX11_go_59 (by decide) rfl ?_
    refine GV.aload_n dX11_go_62 rfl ?_
    refine GV.getf okX11 5 (fun h H => H.aown.1) fl_X11_35 dX11_go_63 (by decide) rfl ?_
    refine GV.bipush (v := 63) dX11_go_66 (by decide) ?_
    refine GV.iconst (v := 1) dX11_go_68 (by decide) ?_
    refine GV.cV3 (ci := 1) yoX1_pass ml_X11_272 im_X1_pass se_X1_pass dX11_go_69 rfl (fun h H => H.ak.1) (Nat.le_of_ble_eq_true rfl) (by omega) rfl (Nat.le_of_ble_eq_true rfl) (GV.up (fun h H => pass_V (men := 63) (look := true) (by omega) H.ak rfl H.aT hw H.ac he (by omega) H.apc H.apk) (fun h v h' H q => ⟨q.1, H.wLc q.2.1 q.2.2.1 q.2.2.2⟩)) (GV.wrK ?_)
    rw [passS_kI]
    refine GV.iinc (v := 1) dX11_go_72 rfl (by decide) (by decide) rfl ?_
    refine GV.goto 53 dX11_go_75 (by decide) ?_
    refine GV.weak [some (.ref z), some (.int (nI n)), some (.int (nI (i + 1)))] (by simp [leL, sto1, sto2, k2c, nI_1]) ?_
    exact ih (i + 1) _ (by omega) (by rw [passS_0]; exact he)
set_option maxRecDepth 100000 in
set_option maxHeartbeats 2000000 in
theorem go_F {d n0 z : Nat} {κ : Kd} {h0 : Hp} (hd : 9 ≤ d) {s : St} {T T2 : Tx} {c g th u F k pa tu rd tk : St} {x : Int32} (hw : wfT T) (hp : c.1 0 = T.1.1 0) : GV (IB z h0) MX11_go (d, 0, 0, n0, κ) (mkF s T T2 c g th u F k pa tu rd tk) 0 [some (.ref z), some (.int (x)), none] [] (fun v S' => v = some (.int (aGoV T c x)) ∧ ∃ k' : St, S' = mkF s T T2 (aGoC T c x) g th (aGoU c u x) F k' pa tu rd tk) := by
  refine GV.iload_n dX11_go_0 rfl ?_
  refine GV.if_lt 26 dX11_go_1 (by decide) (fun c1 => ?_) (fun c1 => ?_)
  · skip
    have hA : aGoB c x = false := by unfold aGoB; rw [decide_eq_false (fun z => z c1)]; rfl
    refine GV.iconst (v := (-1)) dX11_go_26 (by decide) ?_
    refine GV.iret dX11_go_27 rfl ?_
    refine ⟨by unfold aGoV; rw [if_neg (by rw [hA]; decide)], k, ?_⟩
    unfold aGoC aGoU
    rw [if_neg (by rw [hA]; decide), if_neg (by rw [hA]; exact fun z => absurd z.1 (by decide))]
  · skip
    obtain ⟨n, rfl, hn2, hnn⟩ := nat_nn c1
    refine GV.iload_n dX11_go_4 rfl ?_
    refine GV.sipush (v := 200) dX11_go_5 (by decide) ?_
    refine GV.icmp_gt 26 dX11_go_8 (by decide) (fun c8 => ?_) (fun c8 => ?_)
    · skip
      have hA : aGoB c (nI n) = false := by unfold aGoB; rw [decide_eq_false (p := ¬ 200 < nI n) (fun z => z c8), Bool.and_false]; rfl
      refine GV.iconst (v := (-1)) dX11_go_26 (by decide) ?_
      refine GV.iret dX11_go_27 rfl ?_
      refine ⟨by unfold aGoV; rw [if_neg (by rw [hA]; decide)], k, ?_⟩
      unfold aGoC aGoU
      rw [if_neg (by rw [hA]; decide), if_neg (by rw [hA]; exact fun z => absurd z.1 (by decide))]
    · skip
      have hx3 : n ≤ 200 := nI_le_of hn2 (by omega) c8
      refine GV.aload_n dX11_go_11 rfl ?_
      refine GV.getf okX11 5 (fun h H => H.aown.1) fl_X11_35 dX11_go_12 (by decide) rfl ?_
      refine GV.getf okX0 7 (fun h H => H.ac.1) fl_X11_215 dX11_go_15 (by decide) rfl ?_
      refine GV.iload_n dX11_go_18 rfl ?_
      refine GV.iadd dX11_go_19 ?_
      refine GV.sipush (v := 9800) dX11_go_20 (by decide) ?_
      refine GV.icmp_le 28 dX11_go_23 (by decide) (fun c23 => ?_) (fun c23 => ?_)
      · skip
        have h98 : ¬ 9800 < c.1 7 + nI n := Int32.not_lt.mpr c23
        have hA : aGoB c (nI n) = true := by unfold aGoB; rw [decide_eq_true c1, decide_eq_true c8, decide_eq_true h98]; rfl
        refine GV.iload_n dX11_go_28 rfl ?_
        refine GV.if_le 39 dX11_go_29 (by decide) (fun c29 => ?_) (fun c29 => ?_)
        · skip
          have hu9 : aGoU c u (nI n) = u := if_neg (fun z => Int32.not_lt.mpr c29 z.2)
          refine GV.aload_n dX11_go_39 rfl ?_
          refine GV.getf okX11 9 (fun h H => H.aown.1) fl_X11_48 dX11_go_40 (by decide) rfl ?_
          refine GV.aload_n dX11_go_43 rfl ?_
          refine GV.getf okX11 3 (fun h H => H.aown.1) fl_X11_25 dX11_go_44 (by decide) rfl ?_
          refine GV.iconst (v := 1) dX11_go_47 (by decide) ?_
          refine GV.cV2 (ci := 1) yoX1_begin ml_X11_269 im_X1_begin se_X1_begin dX11_go_48 rfl (fun h H => H.ak.1) (Nat.le_of_ble_eq_true rfl) (by omega) rfl (Nat.le_of_ble_eq_true rfl) (GV.up (fun h H => kBegin_V (w := 1) (by omega) H.ak) (fun h v h' H q => ⟨q.1, H.wk q.2.1 q.2.2⟩)) (GV.wrK ?_)
          refine GV.iconst (v := 0) dX11_go_51 (by decide) ?_
          refine GV.istore_n dX11_go_52 (by decide) rfl ?_
          refine GV.weak [some (.ref z), some (.int (nI n)), some (.int (nI 0))] (by simp [leL, sto1, sto2, k2c]; try rfl) ?_
          refine GV.post ?_ (go_loop (c := c) (by omega) hw (by omega) n 0 c (by omega) hp)
          rintro _ _ ⟨rfl, rfl⟩
          exact ⟨by unfold aGoV aGoC; rw [if_pos hA, if_pos hA, hnn], _, by unfold aGoC; rw [if_pos hA, hu9, hnn]⟩
        · skip
          have hu9 : aGoU c u (nI n) = uZero u := if_pos ⟨hA, Int32.not_le.mp c29⟩
          refine GV.aload_n dX11_go_32 rfl ?_
          refine GV.getf okX11 10 (fun h H => H.aown.1) fl_X11_55 dX11_go_33 (by decide) rfl ?_
          refine GV.cV0 (ci := 10) yoX10_forget ml_X11_106 im_X10_forget se_X10_forget dX11_go_36 rfl (fun h H => H.au.1) (Nat.le_of_ble_eq_true rfl) (by omega) rfl (Nat.le_of_ble_eq_true rfl) (GV.up (fun h H => uZero_V (by omega) H.au) (fun h v h' H q => ⟨q.1, H.wu q.2.1 q.2.2⟩)) (GV.wrK ?_)
          refine GV.aload_n dX11_go_39 rfl ?_
          refine GV.getf okX11 9 (fun h H => H.aown.1) fl_X11_48 dX11_go_40 (by decide) rfl ?_
          refine GV.aload_n dX11_go_43 rfl ?_
          refine GV.getf okX11 3 (fun h H => H.aown.1) fl_X11_25 dX11_go_44 (by decide) rfl ?_
          refine GV.iconst (v := 1) dX11_go_47 (by decide) ?_
          refine GV.cV2 (ci := 1) yoX1_begin ml_X11_269 im_X1_begin se_X1_begin dX11_go_48 rfl (fun h H => H.ak.1) (Nat.le_of_ble_eq_true rfl) (by omega) rfl (Nat.le_of_ble_eq_true rfl) (GV.up (fun h H => kBegin_V (w := 1) (by omega) H.ak) (fun h v h' H q => ⟨q.1, H.wk q.2.1 q.2.2⟩)) (GV.wrK ?_)
          refine GV.iconst (v := 0) dX11_go_51 (by decide) ?_
          refine GV.istore_n dX11_go_52 (by decide) rfl ?_
          refine GV.weak [some (.ref z), some (.int (nI n)), some (.int (nI 0))] (by simp [leL, sto1, sto2, k2c]; try rfl) ?_
          refine GV.post ?_ (go_loop (c := c) (by omega) hw (by omega) n 0 c (by omega) hp)
          rintro _ _ ⟨rfl, rfl⟩
          exact ⟨by unfold aGoV aGoC; rw [if_pos hA, if_pos hA, hnn], _, by unfold aGoC; rw [if_pos hA, hu9, hnn]⟩
      · skip
        have h98 : 9800 < c.1 7 + nI n := Int32.not_le.mp c23
        have hA : aGoB c (nI n) = false := by unfold aGoB; rw [decide_eq_false (p := ¬ 9800 < c.1 7 + nI n) (fun z => z h98), Bool.and_false]
        refine GV.iconst (v := (-1)) dX11_go_26 (by decide) ?_
        refine GV.iret dX11_go_27 rfl ?_
        refine ⟨by unfold aGoV; rw [if_neg (by rw [hA]; decide)], k, ?_⟩
        unfold aGoC aGoU
        rw [if_neg (by rw [hA]; decide), if_neg (by rw [hA]; exact fun z => absurd z.1 (by decide))]
set_option maxRecDepth 100000 in
set_option maxHeartbeats 2000000 in
theorem look_loop {d n0 z : Nat} {κ : Kd} {h0 : Hp} (hd : 8 ≤ d) {s : St} {T T2 : Tx} {c g th u F k pa tu rd tk : St} {n : Nat} (hw : wfT T) (hn : n ≤ 10000) : ∀ (j i : Nat) (e : St), i + j = n → e.1 0 = T.1.1 0 → GV (IB z h0) MX11_lookAhead (d, 0, 0, n0, κ) (mkF s T T2 c g e u F (kInit k (s.2.2.2 3) 0) pa tu rd tk) 25 [some (.ref z), some (.int (nI n)), some (.int (nI i))] [] (gW none (mkF s T T2 c g (hoursS T (kW 0) 63 true j e) u F (kInit k (s.2.2.2 3) 0) pa tu rd tk)) := by
  intro j
  induction j with
  | zero =>
    intro i e hij he
    have hin : i = n := by omega
    subst hin
    refine GV.iload_n dX11_lookAhead_25 rfl ?_
    refine GV.iload_n dX11_lookAhead_26 rfl ?_
    refine GV.icmp_ge 50 dX11_lookAhead_27 (by decide) (fun _ => ?_) (fun z => absurd (nI_le (Nat.le_refl _) (by omega)) z)
    refine GV.vret dX11_lookAhead_50 rfl ?_
    exact ⟨rfl, rfl⟩
  | succ j ih =>
    intro i e hij he
    refine GV.iload_n dX11_lookAhead_25 rfl ?_
    refine GV.iload_n dX11_lookAhead_26 rfl ?_
    refine GV.icmp_ge 50 dX11_lookAhead_27 (by decide) (fun z => absurd z (nI_ge (by omega) (by omega))) (fun _ => ?_)
    refine GV.aload_n dX11_lookAhead_30 rfl ?_
    refine GV.getf okX11 9 (fun h H => H.aown.1) fl_X11_48 dX11_lookAhead_31 (by decide) rfl ?_
    refine GV.aload_n dX11_lookAhead_34 rfl ?_
    refine GV.getf okX11 8 (fun h H => H.aown.1) fl_X11_42 dX11_lookAhead_35 (by decide) rfl ?_
    refine GV.bipush (v := 63) dX11_lookAhead_38 (by decide) ?_
    refine GV.iconst (v := 1) dX11_lookAhead_40 (by decide) ?_
    refine GV.cV3 (ci := 1) yoX1_pass ml_X11_272 im_X1_pass se_X1_pass dX11_lookAhead_41 rfl (fun h H => H.ak.1) (Nat.le_of_ble_eq_true rfl) (by omega) rfl (Nat.le_of_ble_eq_true rfl) (GV.up (fun h H => pass_V (men := 63) (look := true) (by omega) H.ak rfl H.aT hw H.ath he (by omega) H.apth H.apk) (fun h v h' H q => ⟨q.1, H.wLt q.2.1 q.2.2.1 q.2.2.2⟩)) (GV.wrK ?_)
    rw [passS_kI]
    refine GV.iinc (v := 1) dX11_lookAhead_44 rfl (by decide) (by decide) rfl ?_
    refine GV.goto 25 dX11_lookAhead_47 (by decide) ?_
    refine GV.weak [some (.ref z), some (.int (nI n)), some (.int (nI (i + 1)))] (by simp [leL, sto1, sto2, k2c, nI_1]) ?_
    exact ih (i + 1) _ (by omega) (by rw [passS_0]; exact he)
set_option maxRecDepth 100000 in
set_option maxHeartbeats 1000000 in
theorem look_F {d n0 z : Nat} {κ : Kd} {h0 : Hp} (hd : 9 ≤ d) {s : St} {T T2 : Tx} {c g th u F k pa tu rd tk : St} {n : Nat} (hw : wfT T) (hp : c.1 0 = T.1.1 0) (hn : n ≤ 10000) : GV (IB z h0) MX11_lookAhead (d, 0, 0, n0, κ) (mkF s T T2 c g th u F k pa tu rd tk) 0 [some (.ref z), some (.int (nI n)), none] [] (gW none (mkF s T T2 c g (hoursS T (kW 0) 63 true n (cCopy th c)) u F (kInit k (s.2.2.2 3) 0) pa tu rd tk)) := by
  refine GV.aload_n dX11_lookAhead_0 rfl ?_
  refine GV.getf okX11 9 (fun h H => H.aown.1) fl_X11_48 dX11_lookAhead_1 (by decide) rfl ?_
  refine GV.aload_n dX11_lookAhead_4 rfl ?_
  refine GV.getf okX11 3 (fun h H => H.aown.1) fl_X11_25 dX11_lookAhead_5 (by decide) rfl ?_
  refine GV.iconst (v := 0) dX11_lookAhead_8 (by decide) ?_
  refine GV.cV2 (ci := 1) yoX1_begin ml_X11_269 im_X1_begin se_X1_begin dX11_lookAhead_9 rfl (fun h H => H.ak.1) (Nat.le_of_ble_eq_true rfl) (by omega) rfl (Nat.le_of_ble_eq_true rfl) (GV.up (fun h H => kBegin_V (w := 0) (by omega) H.ak) (fun h v h' H q => ⟨q.1, H.wk q.2.1 q.2.2⟩)) (GV.wrK ?_)
  refine GV.aload_n dX11_lookAhead_12 rfl ?_
  refine GV.getf okX11 8 (fun h H => H.aown.1) fl_X11_42 dX11_lookAhead_13 (by decide) rfl ?_
  refine GV.aload_n dX11_lookAhead_16 rfl ?_
  refine GV.getf okX11 5 (fun h H => H.aown.1) fl_X11_35 dX11_lookAhead_17 (by decide) rfl ?_
  refine GV.cV1 (ci := 0) yoX0_copy ml_X11_280 im_X0_copy se_X0_copy dX11_lookAhead_20 rfl (fun h H => H.ath.1) (Nat.le_of_ble_eq_true rfl) (by omega) rfl (Nat.le_of_ble_eq_true rfl) (GV.up (fun h H => copy_V (by omega) H.ath H.ac (by omega)) (fun h v h' H q => ⟨q.1, H.wth q.2.1 q.2.2⟩)) (GV.wrK ?_)
  refine GV.iconst (v := 0) dX11_lookAhead_23 (by decide) ?_
  refine GV.istore_n dX11_lookAhead_24 (by decide) rfl ?_
  refine GV.weak [some (.ref z), some (.int (nI n)), some (.int (nI 0))] (by simp [leL, sto1, sto2, k2c]; try rfl) ?_
  exact look_loop (th := th) (by omega) hw hn n 0 _ (by omega) (by rw [cCopy_0.1]; exact hp)
set_option maxRecDepth 100000 in
set_option maxHeartbeats 2000000 in
theorem aheadT_F {d n0 z : Nat} {κ : Kd} {h0 : Hp} (hd : 10 ≤ d) {s : St} {T T2 : Tx} {c g th u F k pa tu rd tk : St} {n : Nat} {w y : Int32} (hw : wfT T) (hp : c.1 0 = T.1.1 0) (hn : n ≤ 200) (hnn : nat (nI n) = n) (hC : ¬ nI n < 0 ∧ ¬ 200 < nI n ∧ ¬ w < 0 ∧ ¬ 4 < w ∧ (w = 2 ∨ w = 3 ∨ isManB (T.1.1 0) y = true)) : GV (IB z h0) MX11_ahead (d, 0, 0, n0, κ) (mkF s T T2 c g th u F k pa tu rd tk) 42 [some (.ref z), some (.int (nI n)), some (.int (w)), some (.int (y))] [] (fun v S' => v = some (.int (aAhead T (cCopy th c) (nI n) w y)) ∧ ∃ th' k' : St, S' = mkF s T T2 c g th' u F k' pa tu rd tk) := by
  refine GV.aload_n dX11_ahead_42 rfl ?_
  refine GV.iload_n dX11_ahead_43 rfl ?_
  refine GV.cV1 (ci := 11) yoX11_lookAhead ml_X11_283 im_X11_lookAhead se_X11_lookAhead dX11_ahead_44 rfl (fun h H => H.aown.1) (Nat.le_of_ble_eq_true rfl) (by omega) rfl (Nat.le_of_ble_eq_true rfl) (look_F (n := n) (by omega) hw hp (by omega)) (GV.wrK ?_)
  refine GV.iload_n dX11_ahead_47 rfl ?_
  refine GV.tswG [(0, 80), (1, 89), (2, 99), (3, 107)] 123 dX11_ahead_48 (by decide) (by decide +kernel) (fa_cons (fun cs48 => ?_) (fa_cons (fun cs48 => ?_) (fa_cons (fun cs48 => ?_) (fa_cons (fun cs48 => ?_) fa_nil)))) (fun co48 => ?_)
  · skip
    have hk : w = 0 := cs48
    have hman : isManB (T.1.1 0) y = true := hC.2.2.2.2.elim (fun z => absurd (z.symm.trans hk) (by decide)) (fun z => z.elim (fun z => absurd (z.symm.trans hk) (by decide)) id)
    obtain ⟨q, rfl, hqn, hq6, hnq⟩ := man_of hw hman
    refine GV.aload_n dX11_ahead_80 rfl ?_
    refine GV.getf okX11 8 (fun h H => H.aown.1) fl_X11_42 dX11_ahead_81 (by decide) rfl ?_
    refine GV.iload_n dX11_ahead_84 rfl ?_
    refine GV.cV1 (ci := 0) yoX0_leftOf ml_X11_131 im_X0_leftOf se_X0_leftOf dX11_ahead_85 rfl (fun h H => H.ath.1) (Nat.le_of_ble_eq_true rfl) (by omega) rfl (Nat.le_of_ble_eq_true rfl) (GV.rd (fun h H => leftOf_V (by omega) H.ath hq6)) (GV.rdK ?_)
    refine GV.iret dX11_ahead_88 rfl ?_
    refine ⟨?_, _, _, rfl⟩
    unfold aAhead
    rw [if_pos hC, hnn]
    rw [if_pos hk, hnq]
  · skip
    have hk : w = 1 := cs48
    have hman : isManB (T.1.1 0) y = true := hC.2.2.2.2.elim (fun z => absurd (z.symm.trans hk) (by decide)) (fun z => z.elim (fun z => absurd (z.symm.trans hk) (by decide)) id)
    obtain ⟨q, rfl, hqn, hq6, hnq⟩ := man_of hw hman
    refine GV.aload_n dX11_ahead_89 rfl ?_
    refine GV.aload_n dX11_ahead_90 rfl ?_
    refine GV.getf okX11 8 (fun h H => H.aown.1) fl_X11_42 dX11_ahead_91 (by decide) rfl ?_
    refine GV.iload_n dX11_ahead_94 rfl ?_
    refine GV.cV2 (ci := 11) yoX11_recalled ml_X11_174 im_X11_recalled se_X11_recalled dX11_ahead_95 rfl (fun h H => H.aown.1) (Nat.le_of_ble_eq_true rfl) (by omega) rfl (Nat.le_of_ble_eq_true rfl) (recalledT_F (by omega) hw hqn) (GV.rdK ?_)
    refine GV.iret dX11_ahead_98 rfl ?_
    refine ⟨?_, _, _, rfl⟩
    unfold aAhead
    rw [if_pos hC, hnn]
    rw [if_neg (by rw [hk]; decide), if_pos hk, hnq]
  · skip
    have hk : w = 2 := cs48
    refine GV.aload_n dX11_ahead_99 rfl ?_
    refine GV.getf okX11 8 (fun h H => H.aown.1) fl_X11_42 dX11_ahead_100 (by decide) rfl ?_
    refine GV.cV0 (ci := 0) yoX0_howManyOut ml_X11_222 im_X0_howManyOut se_X0_howManyOut dX11_ahead_103 rfl (fun h H => H.ath.1) (Nat.le_of_ble_eq_true rfl) (by omega) rfl (Nat.le_of_ble_eq_true rfl) (GV.rd (fun h H => howManyOut_V (n := nat (T.1.1 0)) (by omega) H.ath (by rw [hoursS_0, cCopy_0.1, hp]; exact hw.1.1) (by have := hw.1.2; omega))) (GV.rdK ?_)
    refine GV.iret dX11_ahead_106 rfl ?_
    refine ⟨?_, _, _, rfl⟩
    unfold aAhead
    rw [if_pos hC, hnn]
    rw [if_neg (by rw [hk]; decide), if_neg (by rw [hk]; decide), if_pos hk]
  · skip
    have hk : w = 3 := cs48
    refine GV.aload_n dX11_ahead_107 rfl ?_
    refine GV.getf okX11 8 (fun h H => H.aown.1) fl_X11_42 dX11_ahead_108 (by decide) rfl ?_
    refine GV.getf okX0 8 (fun h H => H.ath.1) fl_X11_228 dX11_ahead_111 (by decide) rfl ?_
    refine GV.aload_n dX11_ahead_114 rfl ?_
    refine GV.getf okX11 5 (fun h H => H.aown.1) fl_X11_35 dX11_ahead_115 (by decide) rfl ?_
    refine GV.getf okX0 8 (fun h H => H.ac.1) fl_X11_228 dX11_ahead_118 (by decide) rfl ?_
    refine GV.isub dX11_ahead_121 ?_
    refine GV.iret dX11_ahead_122 rfl ?_
    refine ⟨?_, _, _, rfl⟩
    unfold aAhead
    rw [if_pos hC, hnn]
    rw [if_neg (by rw [hk]; decide), if_neg (by rw [hk]; decide), if_neg (by rw [hk]; decide), if_pos hk, cCopy_0.2.2.1]
  · skip
    have k0 : ¬ w = 0 := fun z => co48 _ List.mem_cons_self z
    have k1 : ¬ w = 1 := fun z => co48 _ (List.mem_cons_of_mem _ List.mem_cons_self) z
    have k2 : ¬ w = 2 := fun z => co48 _ (List.mem_cons_of_mem _ (List.mem_cons_of_mem _ List.mem_cons_self)) z
    have k3 : ¬ w = 3 := fun z => co48 _ (List.mem_cons_of_mem _ (List.mem_cons_of_mem _ (List.mem_cons_of_mem _ List.mem_cons_self))) z
    have hman : isManB (T.1.1 0) y = true := hC.2.2.2.2.elim (fun z => absurd z k2) (fun z => z.elim (fun z => absurd z k3) id)
    obtain ⟨q, rfl, hqn, hq6, hnq⟩ := man_of hw hman
    refine GV.aload_n dX11_ahead_123 rfl ?_
    refine GV.getf okX11 8 (fun h H => H.aown.1) fl_X11_42 dX11_ahead_124 (by decide) rfl ?_
    refine GV.getf okX0 6 (fun h H => H.ath.1) fl_X11_153 dX11_ahead_127 (by decide) rfl ?_
    refine GV.iload_n dX11_ahead_130 rfl ?_
    refine GV.ald (fun h H => C0_r6 H.ath) dX11_ahead_131 (rfl) (hq6) (by decide) ?_
    refine GV.aload_n dX11_ahead_132 rfl ?_
    refine GV.getf okX11 5 (fun h H => H.aown.1) fl_X11_35 dX11_ahead_133 (by decide) rfl ?_
    refine GV.getf okX0 6 (fun h H => H.ac.1) fl_X11_153 dX11_ahead_136 (by decide) rfl ?_
    refine GV.iload_n dX11_ahead_139 rfl ?_
    refine GV.ald (fun h H => C0_r6 H.ac) dX11_ahead_140 (rfl) (hq6) (by decide) ?_
    refine GV.isub dX11_ahead_141 ?_
    refine GV.iret dX11_ahead_142 rfl ?_
    refine ⟨?_, _, _, rfl⟩
    unfold aAhead
    rw [if_pos hC, hnn]
    rw [if_neg k0, if_neg k1, if_neg k2, if_neg k3, hnq]
    rfl
set_option maxRecDepth 100000 in
set_option maxHeartbeats 2000000 in
theorem ahead_F {d n0 z : Nat} {κ : Kd} {h0 : Hp} (hd : 11 ≤ d) {s : St} {T T2 : Tx} {c g th u F k pa tu rd tk : St} {x w y : Int32} (hw : wfT T) (hp : c.1 0 = T.1.1 0) : GV (IB z h0) MX11_ahead (d, 0, 0, n0, κ) (mkF s T T2 c g th u F k pa tu rd tk) 0 [some (.ref z), some (.int (x)), some (.int (w)), some (.int (y))] [] (fun v S' => v = some (.int (aAhead T (cCopy th c) x w y)) ∧ ∃ th' k' : St, S' = mkF s T T2 c g th' u F k' pa tu rd tk) := by
  refine GV.iload_n dX11_ahead_0 rfl ?_
  refine GV.if_lt 20 dX11_ahead_1 (by decide) (fun c1 => ?_) (fun c1 => ?_)
  · skip
    have hA : aAhead T (cCopy th c) x w y = -1 := by unfold aAhead; rw [if_neg (fun z => z.1 c1)]
    refine GV.iconst (v := (-1)) dX11_ahead_20 (by decide) ?_
    refine GV.iret dX11_ahead_21 rfl ?_
    rw [hA]
    exact ⟨rfl, th, k, rfl⟩
  · skip
    obtain ⟨n, rfl, hn2, hnn⟩ := nat_nn c1
    refine GV.iload_n dX11_ahead_4 rfl ?_
    refine GV.sipush (v := 200) dX11_ahead_5 (by decide) ?_
    refine GV.icmp_gt 20 dX11_ahead_8 (by decide) (fun c8 => ?_) (fun c8 => ?_)
    · skip
      have hA : aAhead T (cCopy th c) (nI n) w y = -1 := by unfold aAhead; rw [if_neg (fun z => z.2.1 c8)]
      refine GV.iconst (v := (-1)) dX11_ahead_20 (by decide) ?_
      refine GV.iret dX11_ahead_21 rfl ?_
      rw [hA]
      exact ⟨rfl, th, k, rfl⟩
    · skip
      have hx3 : n ≤ 200 := nI_le_of hn2 (by omega) c8
      refine GV.iload_n dX11_ahead_11 rfl ?_
      refine GV.if_lt 20 dX11_ahead_12 (by decide) (fun c12 => ?_) (fun c12 => ?_)
      · skip
        have hA : aAhead T (cCopy th c) (nI n) w y = -1 := by unfold aAhead; rw [if_neg (fun z => z.2.2.1 c12)]
        refine GV.iconst (v := (-1)) dX11_ahead_20 (by decide) ?_
        refine GV.iret dX11_ahead_21 rfl ?_
        rw [hA]
        exact ⟨rfl, th, k, rfl⟩
      · skip
        refine GV.iload_n dX11_ahead_15 rfl ?_
        refine GV.iconst (v := 4) dX11_ahead_16 (by decide) ?_
        refine GV.icmp_le 22 dX11_ahead_17 (by decide) (fun c17 => ?_) (fun c17 => ?_)
        · skip
          have c17 : ¬ 4 < w := Int32.not_lt.mpr c17
          refine GV.iload_n dX11_ahead_22 rfl ?_
          refine GV.iconst (v := 2) dX11_ahead_23 (by decide) ?_
          refine GV.icmp_eq 42 dX11_ahead_24 (by decide) (fun c24 => ?_) (fun c24 => ?_)
          · skip
            have hC : ¬ nI n < 0 ∧ ¬ 200 < nI n ∧ ¬ w < 0 ∧ ¬ 4 < w ∧ (w = 2 ∨ w = 3 ∨ isManB (T.1.1 0) y = true) := ⟨c1, c8, c12, c17, Or.inl c24⟩
            exact aheadT_F (by omega) hw hp hx3 hnn hC
          · skip
            refine GV.iload_n dX11_ahead_27 rfl ?_
            refine GV.iconst (v := 3) dX11_ahead_28 (by decide) ?_
            refine GV.icmp_eq 42 dX11_ahead_29 (by decide) (fun c29 => ?_) (fun c29 => ?_)
            · skip
              have hC : ¬ nI n < 0 ∧ ¬ 200 < nI n ∧ ¬ w < 0 ∧ ¬ 4 < w ∧ (w = 2 ∨ w = 3 ∨ isManB (T.1.1 0) y = true) := ⟨c1, c8, c12, c17, Or.inr (Or.inl c29)⟩
              exact aheadT_F (by omega) hw hp hx3 hnn hC
            · skip
              refine GV.aload_n dX11_ahead_32 rfl ?_
              refine GV.iload_n dX11_ahead_33 rfl ?_
              refine GV.cV1 (ci := 11) yoX11_isPerson ml_X11_120 im_X11_isPerson se_X11_isPerson dX11_ahead_34 rfl (fun h H => H.aown.1) (Nat.le_of_ble_eq_true rfl) (by omega) rfl (Nat.le_of_ble_eq_true rfl) (isPerson_F (by omega)) (GV.rdK ?_)
              refine GV.if_ne 42 dX11_ahead_37 (by decide) (fun c37 => ?_) (fun c37 => ?_)
              · skip
                have hC : ¬ nI n < 0 ∧ ¬ 200 < nI n ∧ ¬ w < 0 ∧ ¬ 4 < w ∧ (w = 2 ∨ w = 3 ∨ isManB (T.1.1 0) y = true) := ⟨c1, c8, c12, c17, Or.inr (Or.inr (bI_t c37))⟩
                exact aheadT_F (by omega) hw hp hx3 hnn hC
              · skip
                have hno := bI_f c37
                have hA : aAhead T (cCopy th c) (nI n) w y = -1 := by unfold aAhead; rw [if_neg (fun z => z.2.2.2.2.elim c24 (fun z => z.elim c29 (fun z => by rw [hno] at z; cases z)))]
                refine GV.iconst (v := (-1)) dX11_ahead_40 (by decide) ?_
                refine GV.iret dX11_ahead_41 rfl ?_
                rw [hA]
                exact ⟨rfl, th, k, rfl⟩
        · skip
          have hA : aAhead T (cCopy th c) (nI n) w y = -1 := by unfold aAhead; rw [if_neg (fun z => z.2.2.2.1 (Int32.not_le.mp c17))]
          refine GV.iconst (v := (-1)) dX11_ahead_20 (by decide) ?_
          refine GV.iret dX11_ahead_21 rfl ?_
          rw [hA]
          exact ⟨rfl, th, k, rfl⟩
/-- seeking, of these men alone, nobody looking -/
def seekC (T : Tx) (men : Int32) (t : St → Bool) : Nat → Nat → St → Int32
  | 0, _, _ => -2
  | j + 1, i, e => if t e = true then nI i else seekC T men t j (i + 1) (passS T (kW 0) men false e)
set_option maxRecDepth 100000 in
set_option maxHeartbeats 2000000 in
theorem ends_loop {d n0 z : Nat} {κ : Kd} {h0 : Hp} (hd : 8 ≤ d) {s : St} {T T2 : Tx} {c g th u F k pa tu rd tk : St} {p : Nat} (hw : wfT T) (hp6 : p < 6) : ∀ (j i : Nat) (e : St), i + j = 200 → e.1 0 = T.1.1 0 → GV (IB z h0) MX11_ends (d, 0, 0, n0, κ) (mkF s T T2 c g e u F (kInit k (s.2.2.2 3) 0) pa tu rd tk) 35 [some (.ref z), some (.int (nI p)), some (.int (nI i))] [] (fun v S' => v = some (.int (seekC T ((1 : Int32) <<< (nI p &&& 31)) (fun e => decide (cLeft e p = 0)) j i e)) ∧ ∃ th' : St, S' = mkF s T T2 c g th' u F (kInit k (s.2.2.2 3) 0) pa tu rd tk) := by
  intro j
  induction j with
  | zero =>
    intro i e hij he
    have hin : i = 200 := by omega
    subst hin
    refine GV.iload_n dX11_ends_35 rfl ?_
    refine GV.sipush (v := 199) dX11_ends_36 (by decide) ?_
    refine GV.icmp_gt 76 dX11_ends_39 (by decide) (fun _ => ?_) (fun z => absurd ((by decide : (199 : Int32) < nI 200)) z)
    refine GV.bipush (v := (-2)) dX11_ends_76 (by decide) ?_
    refine GV.iret dX11_ends_78 rfl ?_
    exact ⟨rfl, _, rfl⟩
  | succ j ih =>
    intro i e hij he
    refine GV.iload_n dX11_ends_35 rfl ?_
    refine GV.sipush (v := 199) dX11_ends_36 (by decide) ?_
    refine GV.icmp_gt 76 dX11_ends_39 (by decide) (fun z => absurd z (Int32.not_lt.mpr (nI_le (a := i) (b := 199) (by omega) (by omega)))) (fun _ => ?_)
    refine GV.aload_n dX11_ends_42 rfl ?_
    refine GV.getf okX11 8 (fun h H => H.aown.1) fl_X11_42 dX11_ends_43 (by decide) rfl ?_
    refine GV.iload_n dX11_ends_46 rfl ?_
    refine GV.cV1 (ci := 0) yoX0_leftOf ml_X11_131 im_X0_leftOf se_X0_leftOf dX11_ends_47 rfl (fun h H => H.ath.1) (Nat.le_of_ble_eq_true rfl) (by omega) rfl (Nat.le_of_ble_eq_true rfl) (GV.rd (fun h H => leftOf_V (by omega) H.ath hp6)) (GV.rdK ?_)
    refine GV.if_ne 55 dX11_ends_50 (by decide) (fun c50 => ?_) (fun c50 => ?_)
    · skip
      have hno : ¬ (fun e => decide (cLeft e p = 0)) e = true := fun z => c50 (of_decide_eq_true z)
      refine GV.aload_n dX11_ends_55 rfl ?_
      refine GV.getf okX11 9 (fun h H => H.aown.1) fl_X11_48 dX11_ends_56 (by decide) rfl ?_
      refine GV.aload_n dX11_ends_59 rfl ?_
      refine GV.getf okX11 8 (fun h H => H.aown.1) fl_X11_42 dX11_ends_60 (by decide) rfl ?_
      refine GV.iconst (v := 1) dX11_ends_63 (by decide) ?_
      refine GV.iload_n dX11_ends_64 rfl ?_
      refine GV.ishl dX11_ends_65 ?_
      refine GV.iconst (v := 0) dX11_ends_66 (by decide) ?_
      refine GV.cV3 (ci := 1) yoX1_pass ml_X11_272 im_X1_pass se_X1_pass dX11_ends_67 rfl (fun h H => H.ak.1) (Nat.le_of_ble_eq_true rfl) (by omega) rfl (Nat.le_of_ble_eq_true rfl) (GV.up (fun h H => pass_V (men := (1 : Int32) <<< (nI p &&& 31)) (look := false) (by omega) H.ak rfl H.aT hw H.ath he (by omega) H.apth H.apk) (fun h v h' H q => ⟨q.1, H.wLt q.2.1 q.2.2.1 q.2.2.2⟩)) (GV.wrK ?_)
      rw [passS_kI]
      refine GV.iinc (v := 1) dX11_ends_70 rfl (by decide) (by decide) rfl ?_
      refine GV.goto 35 dX11_ends_73 (by decide) ?_
      refine GV.weak [some (.ref z), some (.int (nI p)), some (.int (nI (i + 1)))] (by simp [leL, sto1, sto2, k2c, nI_1]) ?_
      rw [seekC, if_neg hno]
      exact ih (i + 1) _ (by omega) (by rw [passS_0]; exact he)
    · skip
      have hyes : (fun e => decide (cLeft e p = 0)) e = true := decide_eq_true c50
      refine GV.iload_n dX11_ends_53 rfl ?_
      refine GV.iret dX11_ends_54 rfl ?_
      rw [seekC, if_pos hyes]
      exact ⟨rfl, _, rfl⟩
set_option maxRecDepth 100000 in
set_option maxHeartbeats 2000000 in
theorem alike_loop {d n0 z : Nat} {κ : Kd} {h0 : Hp} (hd : 8 ≤ d) {s : St} {T T2 : Tx} {c g th u F k pa tu rd tk : St} {p q : Nat} (hw : wfT T) (hp6 : p < 6) (hq6 : q < 6) : ∀ (j i : Nat) (e : St), i + j = 200 → e.1 0 = T.1.1 0 → GV (IB z h0) MX11_alike (d, 0, 0, n0, κ) (mkF s T T2 c g e u F (kInit k (s.2.2.2 3) 0) pa tu rd tk) 36 [some (.ref z), some (.int (nI p)), some (.int (nI q)), some (.int (nI i))] [] (fun v S' => v = some (.int (seekC T (((1 : Int32) <<< (nI p &&& 31)) ||| ((1 : Int32) <<< (nI q &&& 31))) (fun e => decide (cLeft e p = cLeft e q)) j i e)) ∧ ∃ th' : St, S' = mkF s T T2 c g th' u F (kInit k (s.2.2.2 3) 0) pa tu rd tk) := by
  intro j
  induction j with
  | zero =>
    intro i e hij he
    have hin : i = 200 := by omega
    subst hin
    refine GV.iload_n dX11_alike_36 rfl ?_
    refine GV.sipush (v := 199) dX11_alike_37 (by decide) ?_
    refine GV.icmp_gt 89 dX11_alike_40 (by decide) (fun _ => ?_) (fun z => absurd ((by decide : (199 : Int32) < nI 200)) z)
    refine GV.bipush (v := (-2)) dX11_alike_89 (by decide) ?_
    refine GV.iret dX11_alike_91 rfl ?_
    exact ⟨rfl, _, rfl⟩
  | succ j ih =>
    intro i e hij he
    refine GV.iload_n dX11_alike_36 rfl ?_
    refine GV.sipush (v := 199) dX11_alike_37 (by decide) ?_
    refine GV.icmp_gt 89 dX11_alike_40 (by decide) (fun z => absurd z (Int32.not_lt.mpr (nI_le (a := i) (b := 199) (by omega) (by omega)))) (fun _ => ?_)
    refine GV.aload_n dX11_alike_43 rfl ?_
    refine GV.getf okX11 8 (fun h H => H.aown.1) fl_X11_42 dX11_alike_44 (by decide) rfl ?_
    refine GV.iload_n dX11_alike_47 rfl ?_
    refine GV.cV1 (ci := 0) yoX0_leftOf ml_X11_131 im_X0_leftOf se_X0_leftOf dX11_alike_48 rfl (fun h H => H.ath.1) (Nat.le_of_ble_eq_true rfl) (by omega) rfl (Nat.le_of_ble_eq_true rfl) (GV.rd (fun h H => leftOf_V (by omega) H.ath hp6)) (GV.rdK ?_)
    refine GV.aload_n dX11_alike_51 rfl ?_
    refine GV.getf okX11 8 (fun h H => H.aown.1) fl_X11_42 dX11_alike_52 (by decide) rfl ?_
    refine GV.iload_n dX11_alike_55 rfl ?_
    refine GV.cV1 (ci := 0) yoX0_leftOf ml_X11_131 im_X0_leftOf se_X0_leftOf dX11_alike_56 rfl (fun h H => H.ath.1) (Nat.le_of_ble_eq_true rfl) (by omega) rfl (Nat.le_of_ble_eq_true rfl) (GV.rd (fun h H => leftOf_V (by omega) H.ath hq6)) (GV.rdK ?_)
    refine GV.icmp_ne 64 dX11_alike_59 (by decide) (fun c59 => ?_) (fun c59 => ?_)
    · skip
      have hno : ¬ (fun e => decide (cLeft e p = cLeft e q)) e = true := fun z => c59 (of_decide_eq_true z)
      refine GV.aload_n dX11_alike_64 rfl ?_
      refine GV.getf okX11 9 (fun h H => H.aown.1) fl_X11_48 dX11_alike_65 (by decide) rfl ?_
      refine GV.aload_n dX11_alike_68 rfl ?_
      refine GV.getf okX11 8 (fun h H => H.aown.1) fl_X11_42 dX11_alike_69 (by decide) rfl ?_
      refine GV.iconst (v := 1) dX11_alike_72 (by decide) ?_
      refine GV.iload_n dX11_alike_73 rfl ?_
      refine GV.ishl dX11_alike_74 ?_
      refine GV.iconst (v := 1) dX11_alike_75 (by decide) ?_
      refine GV.iload_n dX11_alike_76 rfl ?_
      refine GV.ishl dX11_alike_77 ?_
      refine GV.ior dX11_alike_78 ?_
      refine GV.iconst (v := 0) dX11_alike_79 (by decide) ?_
      refine GV.cV3 (ci := 1) yoX1_pass ml_X11_272 im_X1_pass se_X1_pass dX11_alike_80 rfl (fun h H => H.ak.1) (Nat.le_of_ble_eq_true rfl) (by omega) rfl (Nat.le_of_ble_eq_true rfl) (GV.up (fun h H => pass_V (men := ((1 : Int32) <<< (nI p &&& 31)) ||| ((1 : Int32) <<< (nI q &&& 31))) (look := false) (by omega) H.ak rfl H.aT hw H.ath he (by omega) H.apth H.apk) (fun h v h' H q => ⟨q.1, H.wLt q.2.1 q.2.2.1 q.2.2.2⟩)) (GV.wrK ?_)
      rw [passS_kI]
      refine GV.iinc (v := 1) dX11_alike_83 rfl (by decide) (by decide) rfl ?_
      refine GV.goto 36 dX11_alike_86 (by decide) ?_
      refine GV.weak [some (.ref z), some (.int (nI p)), some (.int (nI q)), some (.int (nI (i + 1)))] (by simp [leL, sto1, sto2, k2c, nI_1]) ?_
      rw [seekC, if_neg hno]
      exact ih (i + 1) _ (by omega) (by rw [passS_0]; exact he)
    · skip
      have hyes : (fun e => decide (cLeft e p = cLeft e q)) e = true := decide_eq_true c59
      refine GV.iload_n dX11_alike_62 rfl ?_
      refine GV.iret dX11_alike_63 rfl ?_
      rw [seekC, if_pos hyes]
      exact ⟨rfl, _, rfl⟩
theorem cCopy_eq {th c : St} {p : Nat} : eqP p (cCopy th c) c := by
  unfold eqP cCopy
  simp [upd, uR]
theorem seek_eq {T : Tx} {men : Int32} {t : St → Bool} {R : St → St → Prop} (hR : ∀ e f, R e f → R (passS T (kW 0) men false e) (passS T (kW 0) 63 true f)) (ht : ∀ e f, R e f → t e = t f) : ∀ (j i : Nat) (e f : St), R e f → seekC T men t j i e = seekF T t j i f := by
  intro j
  induction j with
  | zero => intro i e f _; rfl
  | succ j ih =>
    intro i e f h
    rw [seekC, seekF, ht e f h]
    split
    · rfl
    · exact ih _ _ _ (hR e f h)
theorem bitI : ∀ p, p < 6 → litB ((1 : Int32) <<< (nI p &&& 31)) (nI p) = true := by decide +kernel
theorem bitII : ∀ p, p < 6 → ∀ q, q < 6 → litB (((1 : Int32) <<< (nI p &&& 31)) ||| ((1 : Int32) <<< (nI q &&& 31))) (nI p) = true ∧ litB (((1 : Int32) <<< (nI p &&& 31)) ||| ((1 : Int32) <<< (nI q &&& 31))) (nI q) = true := by decide +kernel
set_option maxRecDepth 100000 in
set_option maxHeartbeats 1000000 in
theorem ends_F {d n0 z : Nat} {κ : Kd} {h0 : Hp} (hd : 9 ≤ d) {s : St} {T T2 : Tx} {c g th u F k pa tu rd tk : St} {x : Int32} (hw : wfT T) (hp : c.1 0 = T.1.1 0) : GV (IB z h0) MX11_ends (d, 0, 0, n0, κ) (mkF s T T2 c g th u F k pa tu rd tk) 0 [some (.ref z), some (.int (x)), none] [] (fun v S' => v = some (.int (aEnds T c x)) ∧ ∃ th' k' : St, S' = mkF s T T2 c g th' u F k' pa tu rd tk) := by
  refine GV.aload_n dX11_ends_0 rfl ?_
  refine GV.iload_n dX11_ends_1 rfl ?_
  refine GV.cV1 (ci := 11) yoX11_isPerson ml_X11_120 im_X11_isPerson se_X11_isPerson dX11_ends_2 rfl (fun h H => H.aown.1) (Nat.le_of_ble_eq_true rfl) (by omega) rfl (Nat.le_of_ble_eq_true rfl) (isPerson_F (by omega)) (GV.rdK ?_)
  refine GV.if_ne 10 dX11_ends_5 (by decide) (fun c5 => ?_) (fun c5 => ?_)
  · skip
    have hman := bI_t c5
    obtain ⟨p, rfl, hpn, hp6, hnp⟩ := man_of hw hman
    refine GV.aload_n dX11_ends_10 rfl ?_
    refine GV.getf okX11 9 (fun h H => H.aown.1) fl_X11_48 dX11_ends_11 (by decide) rfl ?_
    refine GV.aload_n dX11_ends_14 rfl ?_
    refine GV.getf okX11 3 (fun h H => H.aown.1) fl_X11_25 dX11_ends_15 (by decide) rfl ?_
    refine GV.iconst (v := 0) dX11_ends_18 (by decide) ?_
    refine GV.cV2 (ci := 1) yoX1_begin ml_X11_269 im_X1_begin se_X1_begin dX11_ends_19 rfl (fun h H => H.ak.1) (Nat.le_of_ble_eq_true rfl) (by omega) rfl (Nat.le_of_ble_eq_true rfl) (GV.up (fun h H => kBegin_V (w := 0) (by omega) H.ak) (fun h v h' H q => ⟨q.1, H.wk q.2.1 q.2.2⟩)) (GV.wrK ?_)
    refine GV.aload_n dX11_ends_22 rfl ?_
    refine GV.getf okX11 8 (fun h H => H.aown.1) fl_X11_42 dX11_ends_23 (by decide) rfl ?_
    refine GV.aload_n dX11_ends_26 rfl ?_
    refine GV.getf okX11 5 (fun h H => H.aown.1) fl_X11_35 dX11_ends_27 (by decide) rfl ?_
    refine GV.cV1 (ci := 0) yoX0_copy ml_X11_280 im_X0_copy se_X0_copy dX11_ends_30 rfl (fun h H => H.ath.1) (Nat.le_of_ble_eq_true rfl) (by omega) rfl (Nat.le_of_ble_eq_true rfl) (GV.up (fun h H => copy_V (by omega) H.ath H.ac (by omega)) (fun h v h' H q => ⟨q.1, H.wth q.2.1 q.2.2⟩)) (GV.wrK ?_)
    refine GV.iconst (v := 0) dX11_ends_33 (by decide) ?_
    refine GV.istore_n dX11_ends_34 (by decide) rfl ?_
    refine GV.weak [some (.ref z), some (.int (nI p)), some (.int (nI 0))] (by simp [leL, sto1, sto2, k2c]; try rfl) ?_
    refine GV.post ?_ (ends_loop (th := th) (by omega) hw hp6 200 0 (cCopy th c) (by omega) (by rw [cCopy_0.1]; exact hp))
    rintro _ _ ⟨rfl, th1, rfl⟩
    refine ⟨?_, _, _, rfl⟩
    unfold aEnds
    rw [if_pos hman, hnp]
    rw [seek_eq (R := eqP p) (fun e f hR => eqP.pass hw hp6 (bitI p hp6) (lit63 p hp6) hR) (fun e f hR => by simp only [hR.left]) 200 0 (cCopy th c) c cCopy_eq]
  · skip
    have hno := bI_f c5
    have hA : aEnds T c x = -1 := if_neg (by rw [hno]; decide)
    refine GV.iconst (v := (-1)) dX11_ends_8 (by decide) ?_
    refine GV.iret dX11_ends_9 rfl ?_
    rw [hA]
    exact ⟨rfl, th, k, rfl⟩
set_option maxRecDepth 100000 in
set_option maxHeartbeats 1000000 in
theorem alike_F {d n0 z : Nat} {κ : Kd} {h0 : Hp} (hd : 9 ≤ d) {s : St} {T T2 : Tx} {c g th u F k pa tu rd tk : St} {x y : Int32} (hw : wfT T) (hp : c.1 0 = T.1.1 0) : GV (IB z h0) MX11_alike (d, 0, 0, n0, κ) (mkF s T T2 c g th u F k pa tu rd tk) 0 [some (.ref z), some (.int (x)), some (.int (y)), none] [] (fun v S' => v = some (.int (aAlike T c x y)) ∧ ∃ th' k' : St, S' = mkF s T T2 c g th' u F k' pa tu rd tk) := by
  refine GV.aload_n dX11_alike_0 rfl ?_
  refine GV.iload_n dX11_alike_1 rfl ?_
  refine GV.iload_n dX11_alike_2 rfl ?_
  refine GV.cV2 (ci := 11) yoX11_areTwo ml_X11_286 im_X11_areTwo se_X11_areTwo dX11_alike_3 rfl (fun h H => H.aown.1) (Nat.le_of_ble_eq_true rfl) (by omega) rfl (Nat.le_of_ble_eq_true rfl) (areTwo_F (by omega)) (GV.rdK ?_)
  refine GV.if_ne 11 dX11_alike_6 (by decide) (fun c6 => ?_) (fun c6 => ?_)
  · skip
    have htwo := bI_t c6
    obtain ⟨p, q, rfl, rfl, hpn, hqn, hp6, hq6, hnp, hnq, hne⟩ := two_of hw htwo
    refine GV.aload_n dX11_alike_11 rfl ?_
    refine GV.getf okX11 9 (fun h H => H.aown.1) fl_X11_48 dX11_alike_12 (by decide) rfl ?_
    refine GV.aload_n dX11_alike_15 rfl ?_
    refine GV.getf okX11 3 (fun h H => H.aown.1) fl_X11_25 dX11_alike_16 (by decide) rfl ?_
    refine GV.iconst (v := 0) dX11_alike_19 (by decide) ?_
    refine GV.cV2 (ci := 1) yoX1_begin ml_X11_269 im_X1_begin se_X1_begin dX11_alike_20 rfl (fun h H => H.ak.1) (Nat.le_of_ble_eq_true rfl) (by omega) rfl (Nat.le_of_ble_eq_true rfl) (GV.up (fun h H => kBegin_V (w := 0) (by omega) H.ak) (fun h v h' H q => ⟨q.1, H.wk q.2.1 q.2.2⟩)) (GV.wrK ?_)
    refine GV.aload_n dX11_alike_23 rfl ?_
    refine GV.getf okX11 8 (fun h H => H.aown.1) fl_X11_42 dX11_alike_24 (by decide) rfl ?_
    refine GV.aload_n dX11_alike_27 rfl ?_
    refine GV.getf okX11 5 (fun h H => H.aown.1) fl_X11_35 dX11_alike_28 (by decide) rfl ?_
    refine GV.cV1 (ci := 0) yoX0_copy ml_X11_280 im_X0_copy se_X0_copy dX11_alike_31 rfl (fun h H => H.ath.1) (Nat.le_of_ble_eq_true rfl) (by omega) rfl (Nat.le_of_ble_eq_true rfl) (GV.up (fun h H => copy_V (by omega) H.ath H.ac (by omega)) (fun h v h' H q => ⟨q.1, H.wth q.2.1 q.2.2⟩)) (GV.wrK ?_)
    refine GV.iconst (v := 0) dX11_alike_34 (by decide) ?_
    refine GV.istore_n dX11_alike_35 (by decide) rfl ?_
    refine GV.weak [some (.ref z), some (.int (nI p)), some (.int (nI q)), some (.int (nI 0))] (by simp [leL, sto1, sto2, k2c]; try rfl) ?_
    refine GV.post ?_ (alike_loop (th := th) (by omega) hw hp6 hq6 200 0 (cCopy th c) (by omega) (by rw [cCopy_0.1]; exact hp))
    rintro _ _ ⟨rfl, th1, rfl⟩
    refine ⟨?_, _, _, rfl⟩
    unfold aAlike
    rw [if_pos htwo, hnp, hnq]
    rw [seek_eq (R := fun e f => eqP p e f ∧ eqP q e f) (fun e f hR => ⟨eqP.pass hw hp6 (bitII p hp6 q hq6).1 (lit63 p hp6) hR.1, eqP.pass hw hq6 (bitII p hp6 q hq6).2 (lit63 q hq6) hR.2⟩) (fun e f hR => by simp only [hR.1.left, hR.2.left]) 200 0 (cCopy th c) c ⟨cCopy_eq, cCopy_eq⟩]
  · skip
    have hno := bI_f c6
    have hA : aAlike T c x y = -1 := if_neg (by rw [hno]; decide)
    refine GV.iconst (v := (-1)) dX11_alike_9 (by decide) ?_
    refine GV.iret dX11_alike_10 rfl ?_
    rw [hA]
    exact ⟨rfl, th, k, rfl⟩
