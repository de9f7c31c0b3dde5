/-! The face of BurntEnds: beginWith, isAsKnown, lengthsOf, lengths -/
/-- then, begun with another length of one -/
def bgW (th : St) (T : Tx) (p : Nat) (y : Int32) : St := ((cBegin th T.1).1, uA (cBegin th T.1).2.1 1 p y, (cBegin th T.1).2.2)
theorem bgW_0 {th : St} {T : Tx} {p : Nat} {y : Int32} : (bgW th T p y).1 0 = T.1.1 0 := by simp [bgW, cBegin, upd]
theorem bgW_eq {th : St} {T : Tx} {p L : Nat} : eqP p (bgW th T p (nI L)) (begL T p L) := by
  unfold eqP bgW begL cBegin
  simp [upd, uR, uA]
def knF (T : Tx) (F : St) (cn : Int32) (p n : Nat) : Nat → Nat → St → Bool
  | 0, _, _ => true
  | j + 1, h, e => if soF F cn (nI h) p (passS T (kW 0) ((1 : Int32) <<< (nI p &&& 31)) false e) n 0 = true then knF T F cn p n j (h + 1) (passS T (kW 0) ((1 : Int32) <<< (nI p &&& 31)) false e) else false
theorem eqP.so {p : Nat} {F c e : St} {cn b : Int32} (h : eqP p c e) : ∀ (k i : Nat), soF F cn b p c k i = soF F cn b p e k i := by
  intro k
  induction k with
  | zero => intro i; rfl
  | succ k ih =>
    intro i
    rw [soF, soF, ih]
    unfold soS
    rw [h.isL]
theorem knF_eq {T : Tx} {F : St} {cn : Int32} {p n : Nat} (hw : wfT T) (hp6 : p < 6) : ∀ (j h : Nat) (c e : St), eqP p c e → knF T F cn p n j h c = knF T F cn p n j h e := by
  intro j
  induction j with
  | zero => intro h c e _; rfl
  | succ j ih =>
    intro h c e q
    have q2 := eqP.pass (k := kW 0) (l1 := false) (l2 := false) hw hp6 (bitI p hp6) (bitI p hp6) q
    rw [knF, knF, q2.so, ih _ _ _ q2]
/-- whether the FACTS of one that count are so, if the candle was so long -/
def knA (T : Tx) (F : St) (cn : Int32) (p L : Nat) : Bool := knF T F cn p (nat (F.1 0)) (nat (latF F cn (nI p) (nat (F.1 0)))) 1 (begL T p L)
set_option maxRecDepth 100000 in
set_option maxHeartbeats 1000000 in
theorem bgW_F {d n0 z : Nat} {κ : Kd} {h0 : Hp} (hd : 3 ≤ d) {s : St} {T T2 : Tx} {c g th u F k pa tu rd tk : St} {p : Nat} {y : Int32} (hp6 : p < 6) : GV (IB z h0) MX11_beginWith (d, 0, 0, n0, κ) (mkF s T T2 c g th u F k pa tu rd tk) 0 [some (.ref z), some (.int (nI p)), some (.int (y))] [] (gW none (mkF s T T2 c g (bgW th T p y) u F (kInit k (s.2.2.2 3) 0) pa tu rd tk)) := by
  refine GV.aload_n dX11_beginWith_0 rfl ?_
  refine GV.getf okX11 9 (fun h H => H.aown.1) fl_X11_48 dX11_beginWith_1 (by decide) rfl ?_
  refine GV.aload_n dX11_beginWith_4 rfl ?_
  refine GV.getf okX11 3 (fun h H => H.aown.1) fl_X11_25 dX11_beginWith_5 (by decide) rfl ?_
  refine GV.iconst (v := 0) dX11_beginWith_8 (by decide) ?_
  refine GV.cV2 (ci := 1) yoX1_begin ml_X11_269 im_X1_begin se_X1_begin dX11_beginWith_9 rfl (fun h H => H.ak.1) (Nat.le_of_ble_eq_true rfl) (by omega) rfl (Nat.le_of_ble_eq_true rfl) (GV.up (fun h H => kBegin_V (w := 0) (by omega) H.ak) (fun h v h' H q => ⟨q.1, H.wk q.2.1 q.2.2⟩)) (GV.wrK ?_)
  refine GV.aload_n dX11_beginWith_12 rfl ?_
  refine GV.getf okX11 8 (fun h H => H.aown.1) fl_X11_42 dX11_beginWith_13 (by decide) rfl ?_
  refine GV.aload_n dX11_beginWith_16 rfl ?_
  refine GV.getf okX11 3 (fun h H => H.aown.1) fl_X11_25 dX11_beginWith_17 (by decide) rfl ?_
  refine GV.cV1 (ci := 0) yoX0_begin ml_X11_98 im_X0_begin se_X0_begin dX11_beginWith_20 rfl (fun h H => H.ath.1) (Nat.le_of_ble_eq_true rfl) (by omega) rfl (Nat.le_of_ble_eq_true rfl) (GV.up (fun h H => begin_V (by omega) H.ath H.aT.1 (by have := H.apth; omega)) (fun h v h' H q => ⟨q.1, H.wth q.2.1 q.2.2⟩)) (GV.wrK ?_)
  refine GV.aload_n dX11_beginWith_23 rfl ?_
  refine GV.getf okX11 8 (fun h H => H.aown.1) fl_X11_42 dX11_beginWith_24 (by decide) rfl ?_
  refine GV.getf okX0 1 (fun h H => H.ath.1) fl_X11_140 dX11_beginWith_27 (by decide) rfl ?_
  refine GV.iload_n dX11_beginWith_30 rfl ?_
  refine GV.iload_n dX11_beginWith_31 rfl ?_
  refine GV.ast (fun h H => C0_r1 H.ath) dX11_beginWith_32 (rfl) (hp6) (by decide) (fun h h' H e o => H.wth (isR.setA C0_ok H.ath C0_in1 (by decide) _ _ e o) (fun b hb => o b (by omega))) ?_
  refine GV.vret dX11_beginWith_33 rfl ?_
  exact ⟨rfl, rfl⟩
theorem nI_lt_lat {a : Nat} (h : a < 1000) : nI a < nI (a + 1) := (Int32.ofNat_lt_ofNat (by omega) (by omega)).mpr (by omega)
theorem nI_nlt_lat {a b : Nat} (h : b ≤ a) (ha : a < 1000) : ¬ nI a < nI b := fun z => by
  have h2 : a < b := (Int32.ofNat_lt_ofNat (by omega) (by omega)).mp (show Int32.ofNat a < Int32.ofNat b from z)
  omega
theorem ge_people {T : Tx} (hw : wfT T) : T.1.1 0 ≤ nI (nat (T.1.1 0)) := by
  rw [← hw.1.1]
  exact Int32.le_refl _
theorem nge_people {T : Tx} {i : Nat} (hw : wfT T) (hi : i < nat (T.1.1 0)) : ¬ T.1.1 0 ≤ nI i := fun z => by
  rw [hw.1.1] at z
  exact absurd z (nI_ge (by omega) (by have := hw.1.2; omega))
set_option maxRecDepth 100000 in
set_option maxHeartbeats 2000000 in
theorem known_loop {d n0 z : Nat} {κ : Kd} {h0 : Hp} (hd : 8 ≤ d) {s : St} {T T2 : Tx} {c g th u F k pa tu rd tk : St} {p lat : Nat} {cn y : Int32} (hw : wfT T) (hp6 : p < 6) (hF : okN (F.1 0) 25) (hlat : lat ≤ 60) : ∀ (j i : Nat) (e : St), i + j = lat + 1 → e.1 0 = T.1.1 0 → GV (IB z h0) MX11_isAsKnown (d, 0, 0, n0, κ) (mkF s T T2 c g e u F (kInit k (s.2.2.2 3) 0) pa tu rd tk) 20 [some (.ref z), some (.int (cn)), some (.int (nI p)), some (.int (y)), some (.int (nI lat)), some (.int (nI i))] [] (fun v S' => v = some (.int (bI (knF T F cn p (nat (F.1 0)) j i e))) ∧ ∃ th' : St, S' = mkF s T T2 c g th' u F (kInit k (s.2.2.2 3) 0) pa tu rd tk) := by
  intro j
  induction j with
  | zero =>
    intro i e hij he
    have hin : i = lat + 1 := by omega
    subst hin
    refine GV.iload dX11_isAsKnown_20 rfl ?_
    refine GV.iload dX11_isAsKnown_22 rfl ?_
    refine GV.icmp_gt 68 dX11_isAsKnown_24 (by decide) (fun _ => ?_) (fun z => absurd (nI_lt_lat (by omega)) z)
    refine GV.iconst (v := 1) dX11_isAsKnown_68 (by decide) ?_
    refine GV.zret .boolean dX11_isAsKnown_69 rfl (rfl) ?_
    exact ⟨rfl, _, rfl⟩
  | succ j ih =>
    intro i e hij he
    refine GV.iload dX11_isAsKnown_20 rfl ?_
    refine GV.iload dX11_isAsKnown_22 rfl ?_
    refine GV.icmp_gt 68 dX11_isAsKnown_24 (by decide) (fun z => absurd z (nI_nlt_lat (by omega) (by omega))) (fun _ => ?_)
    refine GV.aload_n dX11_isAsKnown_27 rfl ?_
    refine GV.getf okX11 9 (fun h H => H.aown.1) fl_X11_48 dX11_isAsKnown_28 (by decide) rfl ?_
    refine GV.aload_n dX11_isAsKnown_31 rfl ?_
    refine GV.getf okX11 8 (fun h H => H.aown.1) fl_X11_42 dX11_isAsKnown_32 (by decide) rfl ?_
    refine GV.iconst (v := 1) dX11_isAsKnown_35 (by decide) ?_
    refine GV.iload_n dX11_isAsKnown_36 rfl ?_
    refine GV.ishl dX11_isAsKnown_37 ?_
    refine GV.iconst (v := 0) dX11_isAsKnown_38 (by decide) ?_
    refine GV.cV3 (ci := 1) yoX1_pass ml_X11_272 im_X1_pass se_X1_pass dX11_isAsKnown_39 rfl (fun h H => H.ak.1) (Nat.le_of_ble_eq_true rfl) (by omega) rfl (Nat.le_of_ble_eq_true rfl) (GV.up (fun h H => pass_V (men := (1 : Int32) <<< (nI p &&& 31)) (look := false) (by omega) H.ak rfl H.aT hw H.ath he (by omega) H.apth H.apk) (fun h v h' H q => ⟨q.1, H.wLt q.2.1 q.2.2.1 q.2.2.2⟩)) (GV.wrK ?_)
    rw [passS_kI]
    refine GV.aload_n dX11_isAsKnown_42 rfl ?_
    refine GV.getf okX11 11 (fun h H => H.aown.1) fl_X11_62 dX11_isAsKnown_43 (by decide) rfl ?_
    refine GV.iload_n dX11_isAsKnown_46 rfl ?_
    refine GV.iload dX11_isAsKnown_47 rfl ?_
    refine GV.iload_n dX11_isAsKnown_49 rfl ?_
    refine GV.aload_n dX11_isAsKnown_50 rfl ?_
    refine GV.getf okX11 8 (fun h H => H.aown.1) fl_X11_42 dX11_isAsKnown_51 (by decide) rfl ?_
    refine GV.cV4 (ci := 3) yoX3_areSo ml_X11_397 im_X3_areSo se_X3_areSo dX11_isAsKnown_54 rfl (fun h H => H.aF.1) (Nat.le_of_ble_eq_true rfl) (by omega) rfl (Nat.le_of_ble_eq_true rfl) (GV.rd (fun h H => areSo_V (n := nat (F.1 0)) (by omega) H.aF H.ath hF.1 (by have := hF.2; omega) hp6)) (GV.rdK ?_)
    refine GV.if_ne 62 dX11_isAsKnown_57 (by decide) (fun c57 => ?_) (fun c57 => ?_)
    · skip
      have q : soF F cn (nI i) p (passS T (kW 0) ((1 : Int32) <<< (nI p &&& 31)) false e) (nat (F.1 0)) 0 = true := bI_t c57
      refine GV.iinc (v := 1) dX11_isAsKnown_62 rfl (by decide) (by decide) rfl ?_
      refine GV.goto 20 dX11_isAsKnown_65 (by decide) ?_
      refine GV.weak [some (.ref z), some (.int (cn)), some (.int (nI p)), some (.int (y)), some (.int (nI lat)), some (.int (nI (i + 1)))] (by simp [leL, sto1, sto2, k2c, nI_1]) ?_
      rw [knF, if_pos q]
      exact ih (i + 1) _ (by omega) (by rw [passS_0]; exact he)
    · skip
      have q : ¬ soF F cn (nI i) p (passS T (kW 0) ((1 : Int32) <<< (nI p &&& 31)) false e) (nat (F.1 0)) 0 = true := by rw [bI_f c57]; decide
      refine GV.iconst (v := 0) dX11_isAsKnown_60 (by decide) ?_
      refine GV.zret .boolean dX11_isAsKnown_61 rfl (rfl) ?_
      rw [knF, if_neg q]
      exact ⟨rfl, _, rfl⟩
set_option maxRecDepth 100000 in
set_option maxHeartbeats 2000000 in
theorem known1_F {d n0 z : Nat} {κ : Kd} {h0 : Hp} (hd : 9 ≤ d) {s : St} {T T2 : Tx} {c g th u F k pa tu rd tk : St} {p L lat : Nat} {cn : Int32} (hw : wfT T) (hp6 : p < 6) (hF : okN (F.1 0) 25) (hl : latF F cn (nI p) (nat (F.1 0)) = nI lat ∧ lat ≤ 60) (hL : nat (latF F cn (nI p) (nat (F.1 0))) = lat) : GV (IB z h0) MX11_isAsKnown (d, 0, 0, n0, κ) (mkF s T T2 c g th u F k pa tu rd tk) 0 [some (.ref z), some (.int (cn)), some (.int (nI p)), some (.int (nI L)), none, none] [] (fun v S' => v = some (.int (bI (knA T F cn p L))) ∧ ∃ th' k' : St, S' = mkF s T T2 c g th' u F k' pa tu rd tk) := by
  refine GV.aload_n dX11_isAsKnown_0 rfl ?_
  refine GV.getf okX11 11 (fun h H => H.aown.1) fl_X11_62 dX11_isAsKnown_1 (by decide) rfl ?_
  refine GV.iload_n dX11_isAsKnown_4 rfl ?_
  refine GV.iload_n dX11_isAsKnown_5 rfl ?_
  refine GV.cV2 (ci := 3) yoX3_latestHours ml_X11_391 im_X3_latestHours se_X3_latestHours dX11_isAsKnown_6 rfl (fun h H => H.aF.1) (Nat.le_of_ble_eq_true rfl) (by omega) rfl (Nat.le_of_ble_eq_true rfl) (GV.rd (fun h H => latest_V (n := nat (F.1 0)) (by omega) H.aF hF.1 (by have := hF.2; omega))) (GV.rdK ?_)
  refine GV.istore dX11_isAsKnown_9 (by decide) rfl ?_
  refine GV.aload_n dX11_isAsKnown_11 rfl ?_
  refine GV.iload_n dX11_isAsKnown_12 rfl ?_
  refine GV.iload_n dX11_isAsKnown_13 rfl ?_
  refine GV.cV2 (ci := 11) yoX11_beginWith ml_X11_394 im_X11_beginWith se_X11_beginWith dX11_isAsKnown_14 rfl (fun h H => H.aown.1) (Nat.le_of_ble_eq_true rfl) (by omega) rfl (Nat.le_of_ble_eq_true rfl) (bgW_F (by omega) hp6) (GV.wrK ?_)
  refine GV.iconst (v := 1) dX11_isAsKnown_17 (by decide) ?_
  refine GV.istore dX11_isAsKnown_18 (by decide) rfl ?_
  refine GV.weak [some (.ref z), some (.int (cn)), some (.int (nI p)), some (.int (nI L)), some (.int (nI lat)), some (.int (nI 1))] (by simp [leL, sto1, sto2, k2c, hl.1.symm]; try rfl) ?_
  refine GV.post ?_ (known_loop (th := th) (by omega) hw hp6 hF (by have := hl.2; omega) lat 1 (bgW th T p (nI L)) (by omega) bgW_0)
  rintro _ _ ⟨rfl, th1, rfl⟩
  refine ⟨?_, _, _, rfl⟩
  unfold knA
  rw [hL, knF_eq hw hp6 lat 1 _ _ bgW_eq]
theorem asKnown_F {d n0 z : Nat} {κ : Kd} {h0 : Hp} (hd : 9 ≤ d) {s : St} {T T2 : Tx} {c g th u F k pa tu rd tk : St} {p L : Nat} {cn : Int32} (hw : wfT T) (hp6 : p < 6) (hF : okN (F.1 0) 25) (hl : okN (latF F cn (nI p) (nat (F.1 0))) 61) : GV (IB z h0) MX11_isAsKnown (d, 0, 0, n0, κ) (mkF s T T2 c g th u F k pa tu rd tk) 0 [some (.ref z), some (.int cn), some (.int (nI p)), some (.int (nI L)), none, none] [] (fun v S' => v = some (.int (bI (knA T F cn p L))) ∧ ∃ th' k' : St, S' = mkF s T T2 c g th' u F k' pa tu rd tk) :=
  known1_F hd hw hp6 hF ⟨hl.1, by have := hl.2; omega⟩ rfl
def othB (kn : Nat → Bool) (p : Nat) : Nat → Nat → Bool
  | 0, _ => true
  | j + 1, i => if ¬ i = p ∧ kn i = false then false else othB kn p j (i + 1)
def lenB (kn : Nat → Bool) : Nat → Int32
  | 0 => 0
  | L + 1 => lenB kn L ||| (if kn (L + 1) = true then bitM L else 0)
def cLenA (T : Tx) (F : St) (p : Nat) : Int32 := if othB (fun q => knA T F (cntF (F.2.1 6) (mkn F) 0 0) q (nat (T.1.2.1 2 q))) p (nat (T.1.1 0)) 0 = true then lenB (fun L => knA T F (cntF (F.2.1 6) (mkn F) 0 0) p L) 30 else 0
set_option maxRecDepth 100000 in
set_option maxHeartbeats 2000000 in
theorem lens_loop {d n0 z : Nat} {κ : Kd} {h0 : Hp} (hd : 10 ≤ d) {s : St} {T T2 : Tx} {c g u F pa tu rd tk : St} {p : Nat} {cn : Int32} (hw : wfT T) (hp6 : p < 6) (hF : okN (F.1 0) 25) (hl : ∀ q, q < 6 → okN (latF F cn (nI q) (nat (F.1 0))) 61) : ∀ (j i : Nat) (th k : St), i + j = 30 → GV (IB z h0) MX11_lengthsOf (d, 0, 0, n0, κ) (mkF s T T2 c g th u F k pa tu rd tk) 57 [some (.ref z), some (.int (nI p)), some (.int (cn)), some (.int (lenB (fun L => knA T F cn p L) i)), some (.int (nI (i + 1)))] [] (fun v S' => v = some (.int (lenB (fun L => knA T F cn p L) 30)) ∧ ∃ th' k' : St, S' = mkF s T T2 c g th' u F k' pa tu rd tk) := by
  intro j
  induction j with
  | zero =>
    intro i th k hij
    have hin : i = 30 := by omega
    subst hin
    refine GV.iload dX11_lengthsOf_57 rfl ?_
    refine GV.bipush (v := 30) dX11_lengthsOf_59 (by decide) ?_
    refine GV.icmp_gt 90 dX11_lengthsOf_61 (by decide) (fun _ => ?_) (fun z => absurd (by decide) z)
    refine GV.iload_n dX11_lengthsOf_90 rfl ?_
    refine GV.iret dX11_lengthsOf_91 rfl ?_
    exact ⟨rfl, _, _, rfl⟩
  | succ j ih =>
    intro i th k hij
    have hs1 : (1 : Int32) <<< ((nI (i + 1) - 1) &&& 31) = bitM i := by rw [show nI (i + 1) - 1 = nI i by rw [← nI_1]; exact Int32.add_sub_cancel (nI i) 1]; rfl
    refine GV.iload dX11_lengthsOf_57 rfl ?_
    refine GV.bipush (v := 30) dX11_lengthsOf_59 (by decide) ?_
    refine GV.icmp_gt 90 dX11_lengthsOf_61 (by decide) (fun z => absurd z (nI_nlt_lat (a := 30) (by omega) (by omega))) (fun _ => ?_)
    refine GV.aload_n dX11_lengthsOf_64 rfl ?_
    refine GV.iload_n dX11_lengthsOf_65 rfl ?_
    refine GV.iload_n dX11_lengthsOf_66 rfl ?_
    refine GV.iload dX11_lengthsOf_67 rfl ?_
    refine GV.cV3 (ci := 11) yoX11_isAsKnown ml_X11_388 im_X11_isAsKnown se_X11_isAsKnown dX11_lengthsOf_69 rfl (fun h H => H.aown.1) (Nat.le_of_ble_eq_true rfl) (by omega) rfl (Nat.le_of_ble_eq_true rfl) (asKnown_F (L := i + 1) (by omega) hw hp6 hF (hl _ hp6)) (?_)
    rintro _ _ ⟨rfl, th1, k1, rfl⟩
    refine GV.if_eq 84 dX11_lengthsOf_72 (by decide) (fun c72 => ?_) (fun c72 => ?_)
    · skip
      have q : knA T F cn p (i + 1) = false := bI_f c72
      refine GV.iinc (v := 1) dX11_lengthsOf_84 rfl (by decide) (by decide) rfl ?_
      refine GV.goto 57 dX11_lengthsOf_87 (by decide) ?_
      refine GV.weak [some (.ref z), some (.int (nI p)), some (.int (cn)), some (.int (lenB (fun L => knA T F cn p L) (i + 1))), some (.int (nI (i + 1 + 1)))] (by simp [leL, sto1, sto2, k2c, nI_1, lenB, q, hs1]; try rfl) ?_
      exact ih (i + 1) _ _ (by omega)
    · skip
      have q : knA T F cn p (i + 1) = true := bI_t c72
      refine GV.iload_n dX11_lengthsOf_75 rfl ?_
      refine GV.iconst (v := 1) dX11_lengthsOf_76 (by decide) ?_
      refine GV.iload dX11_lengthsOf_77 rfl ?_
      refine GV.iconst (v := 1) dX11_lengthsOf_79 (by decide) ?_
      refine GV.isub dX11_lengthsOf_80 ?_
      refine GV.ishl dX11_lengthsOf_81 ?_
      refine GV.ior dX11_lengthsOf_82 ?_
      refine GV.istore_n dX11_lengthsOf_83 (by decide) rfl ?_
      refine GV.iinc (v := 1) dX11_lengthsOf_84 rfl (by decide) (by decide) rfl ?_
      refine GV.goto 57 dX11_lengthsOf_87 (by decide) ?_
      refine GV.weak [some (.ref z), some (.int (nI p)), some (.int (cn)), some (.int (lenB (fun L => knA T F cn p L) (i + 1))), some (.int (nI (i + 1 + 1)))] (by simp [leL, sto1, sto2, k2c, nI_1, lenB, q, hs1]; try rfl) ?_
      exact ih (i + 1) _ _ (by omega)
theorem nI_inj6 : ∀ {i p : Nat}, i < 6 → p < 6 → nI i = nI p → i = p := by
  intro i p h1 h2 h
  have := congrArg nat h
  rwa [show nat (nI i) = i from nI_clamp (by omega), show nat (nI p) = p from nI_clamp (by omega)] at this
set_option maxRecDepth 100000 in
set_option maxHeartbeats 2000000 in
theorem oth_loop {d n0 z : Nat} {κ : Kd} {h0 : Hp} (hd : 10 ≤ d) {s : St} {T T2 : Tx} {c g u F pa tu rd tk : St} {p : Nat} {cn : Int32} (hw : wfT T) (hp6 : p < 6) (hI : ∀ q, q < nat (T.1.1 0) → T.1.2.1 2 q = nI (nat (T.1.2.1 2 q))) (hF : okN (F.1 0) 25) (hl : ∀ q, q < 6 → okN (latF F cn (nI q) (nat (F.1 0))) 61) : ∀ (j i : Nat) (th k : St), i + j = nat (T.1.1 0) → GV (IB z h0) MX11_lengthsOf (d, 0, 0, n0, κ) (mkF s T T2 c g th u F k pa tu rd tk) 10 [some (.ref z), some (.int (nI p)), some (.int (cn)), some (.int (nI i)), none] [] (fun v S' => v = some (.int (if othB (fun q => knA T F cn q (nat (T.1.2.1 2 q))) p j i = true then lenB (fun L => knA T F cn p L) 30 else 0)) ∧ ∃ th' k' : St, S' = mkF s T T2 c g th' u F k' pa tu rd tk) := by
  intro j
  induction j with
  | zero =>
    intro i th k hij
    have hin : i = nat (T.1.1 0) := by omega
    rw [hin]
    refine GV.iload_n dX11_lengthsOf_10 rfl ?_
    refine GV.aload_n dX11_lengthsOf_11 rfl ?_
    refine GV.getf okX11 3 (fun h H => H.aown.1) fl_X11_25 dX11_lengthsOf_12 (by decide) rfl ?_
    refine GV.getf okX8 0 (fun h H => H.aT.1.1) fl_X11_194 dX11_lengthsOf_15 (by decide) rfl ?_
    refine GV.icmp_ge 52 dX11_lengthsOf_18 (by decide) (fun _ => ?_) (fun z => absurd (ge_people hw) z)
    refine GV.iconst (v := 0) dX11_lengthsOf_52 (by decide) ?_
    refine GV.istore_n dX11_lengthsOf_53 (by decide) rfl ?_
    refine GV.iconst (v := 1) dX11_lengthsOf_54 (by decide) ?_
    refine GV.istore dX11_lengthsOf_55 (by decide) rfl ?_
    refine GV.weak [some (.ref z), some (.int (nI p)), some (.int (cn)), some (.int (lenB (fun L => knA T F cn p L) 0)), some (.int (nI (0 + 1)))] (by simp [leL, sto1, sto2, k2c, lenB]; try rfl) ?_
    rw [othB, if_pos rfl]
    exact lens_loop (by omega) hw hp6 hF hl 30 0 _ _ (by omega)
  | succ j ih =>
    intro i th k hij
    have hi6 : i < 6 := by have := hw.1.2; omega
    refine GV.iload_n dX11_lengthsOf_10 rfl ?_
    refine GV.aload_n dX11_lengthsOf_11 rfl ?_
    refine GV.getf okX11 3 (fun h H => H.aown.1) fl_X11_25 dX11_lengthsOf_12 (by decide) rfl ?_
    refine GV.getf okX8 0 (fun h H => H.aT.1.1) fl_X11_194 dX11_lengthsOf_15 (by decide) rfl ?_
    refine GV.icmp_ge 52 dX11_lengthsOf_18 (by decide) (fun z => absurd z (nge_people hw (by omega))) (fun _ => ?_)
    refine GV.iload_n dX11_lengthsOf_21 rfl ?_
    refine GV.iload_n dX11_lengthsOf_22 rfl ?_
    refine GV.icmp_eq 46 dX11_lengthsOf_23 (by decide) (fun c23 => ?_) (fun c23 => ?_)
    · skip
      have hip : i = p := nI_inj6 hi6 hp6 c23
      have q : othB (fun q => knA T F cn q (nat (T.1.2.1 2 q))) p (j + 1) i = othB (fun q => knA T F cn q (nat (T.1.2.1 2 q))) p j (i + 1) := by rw [othB, if_neg (fun z => z.1 hip)]
      refine GV.iinc (v := 1) dX11_lengthsOf_46 rfl (by decide) (by decide) rfl ?_
      refine GV.goto 10 dX11_lengthsOf_49 (by decide) ?_
      refine GV.weak [some (.ref z), some (.int (nI p)), some (.int (cn)), some (.int (nI (i + 1))), none] (by simp [leL, sto1, sto2, k2c, nI_1]) ?_
      rw [q]
      exact ih (i + 1) _ _ (by omega)
    · skip
      have hip : ¬ i = p := fun z => c23 (by rw [z])
      refine GV.aload_n dX11_lengthsOf_26 rfl ?_
      refine GV.iload_n dX11_lengthsOf_27 rfl ?_
      refine GV.iload_n dX11_lengthsOf_28 rfl ?_
      refine GV.aload_n dX11_lengthsOf_29 rfl ?_
      refine GV.getf okX11 3 (fun h H => H.aown.1) fl_X11_25 dX11_lengthsOf_30 (by decide) rfl ?_
      refine GV.getf okX8 2 (fun h H => H.aT.1.1) fl_X11_134 dX11_lengthsOf_33 (by decide) rfl ?_
      refine GV.iload_n dX11_lengthsOf_36 rfl ?_
      refine GV.ald (fun h H => C8_r2 H.aT.1) dX11_lengthsOf_37 (rfl) (hi6) (by decide) ?_
      refine GV.eqi (y := nI (nat (T.1.2.1 2 i))) (hI i (by omega)) ?_
      refine GV.cV3 (ci := 11) yoX11_isAsKnown ml_X11_388 im_X11_isAsKnown se_X11_isAsKnown dX11_lengthsOf_38 rfl (fun h H => H.aown.1) (Nat.le_of_ble_eq_true rfl) (by omega) rfl (Nat.le_of_ble_eq_true rfl) (asKnown_F (L := nat (T.1.2.1 2 i)) (by omega) hw hi6 hF (hl _ hi6)) (?_)
      rintro _ _ ⟨rfl, th1, k1, rfl⟩
      refine GV.if_ne 46 dX11_lengthsOf_41 (by decide) (fun c41 => ?_) (fun c41 => ?_)
      · skip
        have q0 : knA T F cn i (nat (T.1.2.1 2 i)) = true := bI_t c41
        have q : othB (fun q => knA T F cn q (nat (T.1.2.1 2 q))) p (j + 1) i = othB (fun q => knA T F cn q (nat (T.1.2.1 2 q))) p j (i + 1) := by rw [othB, if_neg (fun z => by rw [q0] at z; exact absurd z.2 (by decide))]
        refine GV.iinc (v := 1) dX11_lengthsOf_46 rfl (by decide) (by decide) rfl ?_
        refine GV.goto 10 dX11_lengthsOf_49 (by decide) ?_
        refine GV.weak [some (.ref z), some (.int (nI p)), some (.int (cn)), some (.int (nI (i + 1))), none] (by simp [leL, sto1, sto2, k2c, nI_1]) ?_
        rw [q]
        exact ih (i + 1) _ _ (by omega)
      · skip
        have q0 : knA T F cn i (nat (T.1.2.1 2 i)) = false := bI_f c41
        have q : othB (fun q => knA T F cn q (nat (T.1.2.1 2 q))) p (j + 1) i = false := by rw [othB, if_pos ⟨hip, q0⟩]
        refine GV.iconst (v := 0) dX11_lengthsOf_44 (by decide) ?_
        refine GV.iret dX11_lengthsOf_45 rfl ?_
        rw [q, if_neg (by decide)]
        exact ⟨rfl, _, _, rfl⟩
set_option maxRecDepth 100000 in
set_option maxHeartbeats 1000000 in
theorem lensOf_F {d n0 z : Nat} {κ : Kd} {h0 : Hp} (hd : 11 ≤ d) {s : St} {T T2 : Tx} {c g th u F k pa tu rd tk : St} {p : Nat} (hw : wfT T) (hp6 : p < 6) (hI : ∀ q, q < nat (T.1.1 0) → T.1.2.1 2 q = nI (nat (T.1.2.1 2 q))) (hk1 : fBy F = nI (mkn F)) (hk2 : mkn F ≤ 24) (hF : okN (F.1 0) 25) (hl : ∀ q, q < 6 → okN (latF F (cntF (F.2.1 6) (mkn F) 0 0) (nI q) (nat (F.1 0))) 61) : GV (IB z h0) MX11_lengthsOf (d, 0, 0, n0, κ) (mkF s T T2 c g th u F k pa tu rd tk) 0 [some (.ref z), some (.int (nI p)), none, none, none] [] (fun v S' => v = some (.int (cLenA T F p)) ∧ ∃ th' k' : St, S' = mkF s T T2 c g th' u F k' pa tu rd tk) := by
  refine GV.aload_n dX11_lengthsOf_0 rfl ?_
  refine GV.getf okX11 11 (fun h H => H.aown.1) fl_X11_62 dX11_lengthsOf_1 (by decide) rfl ?_
  refine GV.cV0 (ci := 3) yoX3_counting ml_X11_385 im_X3_counting se_X3_counting dX11_lengthsOf_4 rfl (fun h H => H.aF.1) (Nat.le_of_ble_eq_true rfl) (by omega) rfl (Nat.le_of_ble_eq_true rfl) (GV.rd (fun h H => counting_V (by omega) H.aF hk1 hk2)) (GV.rdK ?_)
  refine GV.istore_n dX11_lengthsOf_7 (by decide) rfl ?_
  refine GV.iconst (v := 0) dX11_lengthsOf_8 (by decide) ?_
  refine GV.istore_n dX11_lengthsOf_9 (by decide) rfl ?_
  refine GV.weak [some (.ref z), some (.int (nI p)), some (.int (cntF (F.2.1 6) (mkn F) 0 0)), some (.int (nI 0)), none] (by simp [leL, sto1, sto2, k2c]; try rfl) ?_
  exact oth_loop (cn := (cntF (F.2.1 6) (mkn F) 0 0)) (by omega) hw hp6 hI hF hl (nat (T.1.1 0)) 0 _ _ (by omega)
set_option maxRecDepth 100000 in
set_option maxHeartbeats 1000000 in
theorem lengths_F {d n0 z : Nat} {κ : Kd} {h0 : Hp} (hd : 12 ≤ d) {s : St} {T T2 : Tx} {c g th u F k pa tu rd tk : St} {x : Int32} (hw : wfT T) (hI : ∀ q, q < nat (T.1.1 0) → T.1.2.1 2 q = nI (nat (T.1.2.1 2 q))) (hk1 : fBy F = nI (mkn F)) (hk2 : mkn F ≤ 24) (hF : okN (F.1 0) 25) (hl : ∀ q, q < 6 → okN (latF F (cntF (F.2.1 6) (mkn F) 0 0) (nI q) (nat (F.1 0))) 61) : GV (IB z h0) MX11_lengths (d, 0, 0, n0, κ) (mkF s T T2 c g th u F k pa tu rd tk) 0 [some (.ref z), some (.int (x))] [] (fun v S' => v = some (.int (if isManB (T.1.1 0) x = true then cLenA T F (nat x) else -1)) ∧ ∃ th' k' : St, S' = mkF s T T2 c g th' u F k' pa tu rd tk) := by
  refine GV.aload_n dX11_lengths_0 rfl ?_
  refine GV.iload_n dX11_lengths_1 rfl ?_
  refine GV.cV1 (ci := 11) yoX11_isPerson ml_X11_120 im_X11_isPerson se_X11_isPerson dX11_lengths_2 rfl (fun h H => H.aown.1) (Nat.le_of_ble_eq_true rfl) (by omega) rfl (Nat.le_of_ble_eq_true rfl) (isPerson_F (by omega)) (GV.rdK ?_)
  refine GV.if_eq 16 dX11_lengths_5 (by decide) (fun c5 => ?_) (fun c5 => ?_)
  · skip
    have hno := bI_f c5
    refine GV.iconst (v := (-1)) dX11_lengths_16 (by decide) ?_
    refine GV.iret dX11_lengths_17 rfl ?_
    first | (rw [if_pos hman, hnp]; exact ⟨rfl, _, _, rfl⟩) | (rw [if_neg (by rw [hno]; decide)]; exact ⟨rfl, th, k, rfl⟩)
  · skip
    have hman := bI_t c5
    obtain ⟨p, rfl, hpn, hp6, hnp⟩ := man_of hw hman
    refine GV.aload_n dX11_lengths_8 rfl ?_
    refine GV.iload_n dX11_lengths_9 rfl ?_
    refine GV.cV1 (ci := 11) yoX11_lengthsOf ml_X11_382 im_X11_lengthsOf se_X11_lengthsOf dX11_lengths_10 rfl (fun h H => H.aown.1) (Nat.le_of_ble_eq_true rfl) (by omega) rfl (Nat.le_of_ble_eq_true rfl) (lensOf_F (by omega) hw hp6 hI hk1 hk2 hF hl) (?_)
    rintro _ _ ⟨rfl, th1, k1, rfl⟩
    refine GV.goto 17 dX11_lengths_13 (by decide) ?_
    refine GV.iret dX11_lengths_17 rfl ?_
    first | (rw [if_pos hman, hnp]; exact ⟨rfl, _, _, rfl⟩) | (rw [if_neg (by rw [hno]; decide)]; exact ⟨rfl, th, k, rfl⟩)
