/-! The face of BurntEnds: atWorst, addLeft, countLeft, ask -/
/-- by one inch more, so far as asked -/
def addS (s : St) (p : Nat) (e : St) (i : Nat) : St := (s.1, uR s.2.1 15 (fun x => if x < i ∧ cIsLeft e p (nI x) = true then s.2.1 15 x + 1 else s.2.1 15 x), s.2.2)
theorem addS_0 {s e : St} {p : Nat} : addS s p e 0 = s := by
  unfold addS
  have h : uR s.2.1 15 (fun x => if x < 0 ∧ cIsLeft e p (nI x) = true then s.2.1 15 x + 1 else s.2.1 15 x) = s.2.1 := by
    funext j
    unfold uR
    split
    · rename_i q; subst q; funext x; rw [if_neg (fun z => absurd z.1 (Nat.not_lt_zero x))]
    · rfl
  rw [h]
theorem addS_at {s e : St} {p i : Nat} : (addS s p e i).2.1 15 i = s.2.1 15 i := by
  show (if i < i ∧ cIsLeft e p (nI i) = true then s.2.1 15 i + 1 else s.2.1 15 i) = _
  rw [if_neg (fun z => absurd z.1 (Nat.lt_irrefl i))]
theorem addS_y {s e : St} {p i : Nat} (h : cIsLeft e p (nI i) = true) : ((addS s p e i).1, uA (addS s p e i).2.1 15 i ((addS s p e i).2.1 15 i + 1), (addS s p e i).2.2) = addS s p e (i + 1) := by
  rw [addS_at]
  unfold addS
  have q : uA (uR s.2.1 15 (fun x => if x < i ∧ cIsLeft e p (nI x) = true then s.2.1 15 x + 1 else s.2.1 15 x)) 15 i (s.2.1 15 i + 1) = uR s.2.1 15 (fun x => if x < i + 1 ∧ cIsLeft e p (nI x) = true then s.2.1 15 x + 1 else s.2.1 15 x) := by
    funext j
    unfold uA uR
    by_cases hj : j = 15
    · subst hj
      simp only [if_pos]
      funext x
      unfold upd
      by_cases hx : x = i
      · subst hx
        rw [if_pos rfl, if_pos ⟨by omega, h⟩]
      · rw [if_neg hx]
        show (if x < i ∧ cIsLeft e p (nI x) = true then s.2.1 15 x + 1 else s.2.1 15 x) = (if x < i + 1 ∧ cIsLeft e p (nI x) = true then s.2.1 15 x + 1 else s.2.1 15 x)
        by_cases hc : cIsLeft e p (nI x) = true
        · by_cases hl : x < i
          · rw [if_pos ⟨hl, hc⟩, if_pos ⟨by omega, hc⟩]
          · rw [if_neg (fun z => hl z.1), if_neg (fun z => hl (by omega))]
        · rw [if_neg (fun z => hc z.2), if_neg (fun z => hc z.2)]
    · rw [if_neg hj, if_neg hj, if_neg hj]
  rw [q]
theorem addS_n {s e : St} {p i : Nat} (h : cIsLeft e p (nI i) = false) : addS s p e i = addS s p e (i + 1) := by
  unfold addS
  have q : (fun x => if x < i ∧ cIsLeft e p (nI x) = true then s.2.1 15 x + 1 else s.2.1 15 x) = (fun x => if x < i + 1 ∧ cIsLeft e p (nI x) = true then s.2.1 15 x + 1 else s.2.1 15 x) := by
    funext x
    by_cases hx : x = i
    · subst hx
      rw [if_neg (fun z => by rw [h] at z; exact absurd z.2 (by decide)), if_neg (fun z => by rw [h] at z; exact absurd z.2 (by decide))]
    · by_cases hl : x < i
      · by_cases hc : cIsLeft e p (nI x) = true
        · rw [if_pos ⟨hl, hc⟩, if_pos ⟨by omega, hc⟩]
        · rw [if_neg (fun z => hc z.2), if_neg (fun z => hc z.2)]
      · rw [if_neg (fun z => hl z.1), if_neg (fun z => hl (by omega))]
  rw [q]
/-- lengths among S of which the inch is LEFT behind 20 HOURS -/
def lfB (T : Tx) (p L x : Nat) : Bool := cIsLeft (hoursS T (kW 0) ((1 : Int32) <<< (nI p &&& 31)) false 20 (begL T p L)) p (nI x)
def cnL (T : Tx) (p : Nat) (S : Int32) : Nat → Nat → Int32
  | 0, _ => 0
  | L + 1, x => cnL T p S L x + (if ¬ (S >>> (nI L &&& 31)) &&& 1 = 0 ∧ lfB T p (L + 1) x = true then 1 else 0)
def frW (s s' : St) : Prop := s'.1 = s.1 ∧ s'.2.1 0 = s.2.1 0 ∧ s'.2.2 = s.2.2
theorem i1s {i : Nat} : nI (i + 1) - 1 = nI i := by rw [← nI_1]; exact Int32.add_sub_cancel (nI i) 1
set_option maxRecDepth 100000 in
set_option maxHeartbeats 1000000 in
theorem worst_F {d n0 z : Nat} {κ : Kd} {h0 : Hp} (hd : 1 ≤ d) {s : St} {T T2 : Tx} {c g th u F k pa tu rd tk : St} {i : Nat} {w : Int32} (hi : i < 60) : GV (IB z h0) MX11_atWorst (d, 0, 0, n0, κ) (mkF s T T2 c g th u F k pa tu rd tk) 0 [some (.ref z), some (.int (nI i)), some (.int (w))] [] (gR (mkF s T T2 c g th u F k pa tu rd tk) (.int (cMax (s.2.1 15 i) (w - s.2.1 15 i)))) := by
  refine GV.aload_n dX11_atWorst_0 rfl ?_
  refine GV.getf okX11 15 (fun h H => H.aown.1) fl_X11_83 dX11_atWorst_1 (by decide) rfl ?_
  refine GV.iload_n dX11_atWorst_4 rfl ?_
  refine GV.ald (fun h H => C11_r15 H.aown) dX11_atWorst_5 (rfl) (hi) (by decide) ?_
  refine GV.iload_n dX11_atWorst_6 rfl ?_
  refine GV.aload_n dX11_atWorst_7 rfl ?_
  refine GV.getf okX11 15 (fun h H => H.aown.1) fl_X11_83 dX11_atWorst_8 (by decide) rfl ?_
  refine GV.iload_n dX11_atWorst_11 rfl ?_
  refine GV.ald (fun h H => C11_r15 H.aown) dX11_atWorst_12 (rfl) (hi) (by decide) ?_
  refine GV.isub dX11_atWorst_13 ?_
  refine GV.mmax ml_X11_310 st_J9_max_7cf53 ini_J9 co_J9_max_7cf53 dX11_atWorst_14 (by omega) (Nat.le_of_ble_eq_true rfl) ?_
  refine GV.iret dX11_atWorst_17 rfl ?_
  exact ⟨rfl, rfl⟩
set_option maxRecDepth 100000 in
set_option maxHeartbeats 2000000 in
theorem addL_loop {d n0 z : Nat} {κ : Kd} {h0 : Hp} (hd : 2 ≤ d) {s : St} {T T2 : Tx} {c g th u F k pa tu rd tk : St} {p : Nat} (hp6 : p < 6) : ∀ (j i : Nat), i + j = 60 → GV (IB z h0) MX11_addLeft (d, 0, 0, n0, κ) (mkF (addS s p th i) T T2 c g th u F k pa tu rd tk) 2 [some (.ref z), some (.int (nI p)), some (.int (nI i))] [] (gW none (mkF (addS s p th 60) T T2 c g th u F k pa tu rd tk)) := by
  intro j
  induction j with
  | zero =>
    intro i hij
    have hin : i = 60 := by omega
    subst hin
    refine GV.iload_n dX11_addLeft_2 rfl ?_
    refine GV.aload_n dX11_addLeft_3 rfl ?_
    refine GV.getf okX11 15 (fun h H => H.aown.1) fl_X11_83 dX11_addLeft_4 (by decide) rfl ?_
    refine GV.alen (v := nI 60) (fun h H => C11_r15 H.aown) dX11_addLeft_7 (by decide) rfl ?_
    refine GV.icmp_ge 39 dX11_addLeft_8 (by decide) (fun _ => ?_) (fun z => absurd (by decide) z)
    refine GV.vret dX11_addLeft_39 rfl ?_
    exact ⟨rfl, rfl⟩
  | succ j ih =>
    intro i hij
    refine GV.iload_n dX11_addLeft_2 rfl ?_
    refine GV.aload_n dX11_addLeft_3 rfl ?_
    refine GV.getf okX11 15 (fun h H => H.aown.1) fl_X11_83 dX11_addLeft_4 (by decide) rfl ?_
    refine GV.alen (v := nI 60) (fun h H => C11_r15 H.aown) dX11_addLeft_7 (by decide) rfl ?_
    refine GV.icmp_ge 39 dX11_addLeft_8 (by decide) (fun z => absurd z (nI_ge (a := i) (b := 60) (by omega) (by omega))) (fun _ => ?_)
    refine GV.aload_n dX11_addLeft_11 rfl ?_
    refine GV.getf okX11 8 (fun h H => H.aown.1) fl_X11_42 dX11_addLeft_12 (by decide) rfl ?_
    refine GV.iload_n dX11_addLeft_15 rfl ?_
    refine GV.iload_n dX11_addLeft_16 rfl ?_
    refine GV.cV2 (ci := 0) yoX0_isLeft ml_X11_168 im_X0_isLeft se_X0_isLeft dX11_addLeft_17 rfl (fun h H => H.ath.1) (Nat.le_of_ble_eq_true rfl) (by omega) rfl (Nat.le_of_ble_eq_true rfl) (GV.rd (fun h H => isLeft_V (by omega) H.ath hp6)) (GV.rdK ?_)
    refine GV.if_eq 33 dX11_addLeft_20 (by decide) (fun c20 => ?_) (fun c20 => ?_)
    · skip
      have q := bI_f c20
      refine GV.iinc (v := 1) dX11_addLeft_33 rfl (by decide) (by decide) rfl ?_
      refine GV.goto 2 dX11_addLeft_36 (by decide) ?_
      refine GV.weak [some (.ref z), some (.int (nI p)), some (.int (nI (i + 1)))] (by simp [leL, sto1, sto2, k2c, nI_1]) ?_
      first
      | (rw [addS_y q]; exact ih (i + 1) (by omega))
      | (rw [addS_n q]; exact ih (i + 1) (by omega))
    · skip
      have q := bI_t c20
      refine GV.aload_n dX11_addLeft_23 rfl ?_
      refine GV.getf okX11 15 (fun h H => H.aown.1) fl_X11_83 dX11_addLeft_24 (by decide) rfl ?_
      refine GV.iload_n dX11_addLeft_27 rfl ?_
      refine GV.dup2 dX11_addLeft_28 rfl rfl ?_
      refine GV.ald (fun h H => C11_r15 H.aown) dX11_addLeft_29 (rfl) (by omega) (by decide) ?_
      refine GV.iconst (v := 1) dX11_addLeft_30 (by decide) ?_
      refine GV.iadd dX11_addLeft_31 ?_
      refine GV.ast (fun h H => C11_r15 H.aown) dX11_addLeft_32 (rfl) (by omega) (by decide) (fun h h' H e o => H.ws (isR.setA C11_ok H.aown C11_in15 (by decide) _ _ e o) rfl rfl (fun b hb => o b (by omega))) ?_
      refine GV.iinc (v := 1) dX11_addLeft_33 rfl (by decide) (by decide) rfl ?_
      refine GV.goto 2 dX11_addLeft_36 (by decide) ?_
      refine GV.weak [some (.ref z), some (.int (nI p)), some (.int (nI (i + 1)))] (by simp [leL, sto1, sto2, k2c, nI_1]) ?_
      first
      | (rw [addS_y q]; exact ih (i + 1) (by omega))
      | (rw [addS_n q]; exact ih (i + 1) (by omega))
set_option maxRecDepth 100000 in
set_option maxHeartbeats 1000000 in
theorem addL_F {d n0 z : Nat} {κ : Kd} {h0 : Hp} (hd : 2 ≤ d) {s : St} {T T2 : Tx} {c g th u F k pa tu rd tk : St} {p : Nat} (hp6 : p < 6) : GV (IB z h0) MX11_addLeft (d, 0, 0, n0, κ) (mkF s T T2 c g th u F k pa tu rd tk) 0 [some (.ref z), some (.int (nI p)), none] [] (gW none (mkF (addS s p th 60) T T2 c g th u F k pa tu rd tk)) := by
  refine GV.iconst (v := 0) dX11_addLeft_0 (by decide) ?_
  refine GV.istore_n dX11_addLeft_1 (by decide) rfl ?_
  refine GV.weak [some (.ref z), some (.int (nI p)), some (.int (nI 0))] (by simp [leL, sto1, sto2, k2c]; try rfl) ?_
  have h := addL_loop (s := s) (T := T) (T2 := T2) (c := c) (g := g) (th := th) (u := u) (F := F) (k := k) (pa := pa) (tu := tu) (rd := rd) (tk := tk) (z := z) (h0 := h0) (n0 := n0) (κ := κ) hd hp6 60 0 (by omega)
  rw [addS_0] at h
  exact h
set_option maxRecDepth 100000 in
set_option maxHeartbeats 2000000 in
theorem cnt_in {d n0 z : Nat} {κ : Kd} {h0 : Hp} (hd : 8 ≤ d) {s : St} {T T2 : Tx} {c g th u F k pa tu rd tk : St} {p r : Nat} {w : Int32} {P : Option Value → FS → Prop} (hw : wfT T) (hp6 : p < 6) : ∀ (j i : Nat) (e : St), i + j = 20 → e.1 0 = T.1.1 0 → (GV (IB z h0) MX11_countLeft (d, 0, 0, n0, κ) (mkF s T T2 c g (hoursS T (kW 0) ((1 : Int32) <<< (nI p &&& 31)) false j e) u F (kInit k (s.2.2.2 3) 0) pa tu rd tk) 63 [some (.ref z), some (.int (nI p)), some (.int (w)), some (.int (nI (r))), some (.int (nI 20))] [] P) → GV (IB z h0) MX11_countLeft (d, 0, 0, n0, κ) (mkF s T T2 c g e u F (kInit k (s.2.2.2 3) 0) pa tu rd tk) 35 [some (.ref z), some (.int (nI p)), some (.int (w)), some (.int (nI (r))), some (.int (nI i))] [] (P) := by
  intro j
  induction j with
  | zero =>
    intro i e hij he hc
    have hin : i = 20 := by omega
    subst hin
    refine GV.iload dX11_countLeft_35 rfl ?_
    refine GV.bipush (v := 20) dX11_countLeft_37 (by decide) ?_
    refine GV.icmp_ge 63 dX11_countLeft_39 (by decide) (fun _ => ?_) (fun z => absurd (by decide) z)
    exact hc
  | succ j ih =>
    intro i e hij he hc
    refine GV.iload dX11_countLeft_35 rfl ?_
    refine GV.bipush (v := 20) dX11_countLeft_37 (by decide) ?_
    refine GV.icmp_ge 63 dX11_countLeft_39 (by decide) (fun z => absurd z (nI_ge (a := i) (b := 20) (by omega) (by omega))) (fun _ => ?_)
    refine GV.aload_n dX11_countLeft_42 rfl ?_
    refine GV.getf okX11 9 (fun h H => H.aown.1) fl_X11_48 dX11_countLeft_43 (by decide) rfl ?_
    refine GV.aload_n dX11_countLeft_46 rfl ?_
    refine GV.getf okX11 8 (fun h H => H.aown.1) fl_X11_42 dX11_countLeft_47 (by decide) rfl ?_
    refine GV.iconst (v := 1) dX11_countLeft_50 (by decide) ?_
    refine GV.iload_n dX11_countLeft_51 rfl ?_
    refine GV.ishl dX11_countLeft_52 ?_
    refine GV.iconst (v := 0) dX11_countLeft_53 (by decide) ?_
    refine GV.cV3 (ci := 1) yoX1_pass ml_X11_272 im_X1_pass se_X1_pass dX11_countLeft_54 rfl (fun h H => H.ak.1) (Nat.le_of_ble_eq_true rfl) (by omega) rfl (Nat.le_of_ble_eq_true rfl) (GV.up (fun h H => pass_V (men := (1 : Int32) <<< (nI p &&& 31)) (look := false) (by omega) H.ak rfl H.aT hw H.ath he (by omega) H.apth H.apk) (fun h v h' H q => ⟨q.1, H.wLt q.2.1 q.2.2.1 q.2.2.2⟩)) (GV.wrK ?_)
    rw [passS_kI]
    refine GV.iinc (v := 1) dX11_countLeft_57 rfl (by decide) (by decide) rfl ?_
    refine GV.goto 35 dX11_countLeft_60 (by decide) ?_
    refine GV.weak [some (.ref z), some (.int (nI p)), some (.int (w)), some (.int (nI (r))), some (.int (nI (i + 1)))] (by simp [leL, sto1, sto2, k2c, nI_1]) ?_
    exact ih (i + 1) _ (by omega) (by rw [passS_0]; exact he) hc
theorem cnt_add {T : Tx} {s th : St} {p L x : Nat} (hw : wfT T) (hp6 : p < 6) (hx : x < 60) : (addS s p (hoursS T (kW 0) ((1 : Int32) <<< (nI p &&& 31)) false 20 (bgW th T p (nI L))) 60).2.1 15 x = s.2.1 15 x + (if lfB T p L x = true then 1 else 0) := by
  show (if x < 60 ∧ cIsLeft (hoursS T (kW 0) ((1 : Int32) <<< (nI p &&& 31)) false 20 (bgW th T p (nI L))) p (nI x) = true then s.2.1 15 x + 1 else s.2.1 15 x) = _
  have h : eqP p (hoursS T (kW 0) ((1 : Int32) <<< (nI p &&& 31)) false 20 (bgW th T p (nI L))) (hoursS T (kW 0) ((1 : Int32) <<< (nI p &&& 31)) false 20 (begL T p L)) := eqP.hours hw hp6 (bitI p hp6) (bitI p hp6) 20 _ _ bgW_eq
  rw [h.isL]
  unfold lfB
  by_cases q : cIsLeft (hoursS T (kW 0) ((1 : Int32) <<< (nI p &&& 31)) false 20 (begL T p L)) p (nI x) = true
  · rw [if_pos ⟨hx, q⟩, if_pos q]
  · rw [if_neg (fun z => q z.2), if_neg q, Int32.add_zero]
set_option maxRecDepth 100000 in
set_option maxHeartbeats 2000000 in
theorem cnt_out {d n0 z : Nat} {κ : Kd} {h0 : Hp} (hd : 9 ≤ d) {s : St} {T T2 : Tx} {c g u F pa tu rd tk : St} {p : Nat} {w : Int32} (hw : wfT T) (hp6 : p < 6) : ∀ (j i : Nat) (s1 th k : St), i + j = 30 → (∀ x, x < 60 → s1.2.1 15 x = cnL T p w i x) → frW s s1 → GV (IB z h0) MX11_countLeft (d, 0, 0, n0, κ) (mkF s1 T T2 c g th u F k pa tu rd tk) 10 [some (.ref z), some (.int (nI p)), some (.int (w)), some (.int (nI (i + 1))), none] [] (fun v S' => v = none ∧ ∃ s' th' k' : St, S' = mkF s' T T2 c g th' u F k' pa tu rd tk ∧ (∀ x, x < 60 → s'.2.1 15 x = cnL T p w 30 x) ∧ frW s s') := by
  intro j
  induction j with
  | zero =>
    intro i s1 th k hij hrow hfr
    have hin : i = 30 := by omega
    subst hin
    refine GV.iload_n dX11_countLeft_10 rfl ?_
    refine GV.bipush (v := 30) dX11_countLeft_11 (by decide) ?_
    refine GV.icmp_gt 74 dX11_countLeft_13 (by decide) (fun _ => ?_) (fun z => absurd (by decide) z)
    refine GV.vret dX11_countLeft_74 rfl ?_
    exact ⟨rfl, _, _, _, rfl, hrow, hfr⟩
  | succ j ih =>
    intro i s1 th k hij hrow hfr
    have hs : s1.2.2.2 3 = s1.2.2.2 3 := rfl
    refine GV.iload_n dX11_countLeft_10 rfl ?_
    refine GV.bipush (v := 30) dX11_countLeft_11 (by decide) ?_
    refine GV.icmp_gt 74 dX11_countLeft_13 (by decide) (fun z => absurd z (nI_nlt_lat (a := 30) (by omega) (by omega))) (fun _ => ?_)
    refine GV.iload_n dX11_countLeft_16 rfl ?_
    refine GV.iload_n dX11_countLeft_17 rfl ?_
    refine GV.iconst (v := 1) dX11_countLeft_18 (by decide) ?_
    refine GV.isub dX11_countLeft_19 ?_
    refine GV.ishr dX11_countLeft_20 ?_
    refine GV.iconst (v := 1) dX11_countLeft_21 (by decide) ?_
    refine GV.iand dX11_countLeft_22 ?_
    refine GV.if_eq 68 dX11_countLeft_23 (by decide) (fun c23 => ?_) (fun c23 => ?_)
    · skip
      rw [i1s] at c23
      refine GV.iinc (v := 1) dX11_countLeft_68 rfl (by decide) (by decide) rfl ?_
      refine GV.goto 10 dX11_countLeft_71 (by decide) ?_
      refine GV.weak [some (.ref z), some (.int (nI p)), some (.int (w)), some (.int (nI ((i + 1) + 1))), none] (by simp [leL, sto1, sto2, k2c, nI_1]; try rfl) ?_
      exact ih (i + 1) _ _ _ (by omega) (fun x hx => by rw [cnL, if_neg (fun z => z.1 c23), Int32.add_zero]; exact hrow x hx) hfr
    · skip
      rw [i1s] at c23
      have q : ¬ (w >>> (nI i &&& 31)) &&& 1 = 0 := c23
      refine GV.aload_n dX11_countLeft_26 rfl ?_
      refine GV.iload_n dX11_countLeft_27 rfl ?_
      refine GV.iload_n dX11_countLeft_28 rfl ?_
      refine GV.cV2 (ci := 11) yoX11_beginWith ml_X11_394 im_X11_beginWith se_X11_beginWith dX11_countLeft_29 rfl (fun h H => H.aown.1) (Nat.le_of_ble_eq_true rfl) (by omega) rfl (Nat.le_of_ble_eq_true rfl) (bgW_F (by omega) hp6) (GV.wrK ?_)
      refine GV.iconst (v := 0) dX11_countLeft_32 (by decide) ?_
      refine GV.istore dX11_countLeft_33 (by decide) rfl ?_
      refine GV.weak [some (.ref z), some (.int (nI p)), some (.int (w)), some (.int (nI (i + 1))), some (.int (nI 0))] (by simp [leL, sto1, sto2, k2c]; try rfl) ?_
      refine cnt_in (th := th) (k := k) (r := i + 1) (by omega) hw hp6 20 0 (bgW th T p (nI (i + 1))) (by omega) bgW_0 ?_
      refine GV.aload_n dX11_countLeft_63 rfl ?_
      refine GV.iload_n dX11_countLeft_64 rfl ?_
      refine GV.cV1 (ci := 11) yoX11_addLeft ml_X11_413 im_X11_addLeft se_X11_addLeft dX11_countLeft_65 rfl (fun h H => H.aown.1) (Nat.le_of_ble_eq_true rfl) (by omega) rfl (Nat.le_of_ble_eq_true rfl) (addL_F (by omega) hp6) (GV.wrK ?_)
      refine GV.iinc (v := 1) dX11_countLeft_68 rfl (by decide) (by decide) rfl ?_
      refine GV.goto 10 dX11_countLeft_71 (by decide) ?_
      refine GV.weak [some (.ref z), some (.int (nI p)), some (.int (w)), some (.int (nI ((i + 1) + 1))), none] (by simp [leL, sto1, sto2, k2c, nI_1]; try rfl) ?_
      exact ih (i + 1) _ _ _ (by omega) (fun x hx => by rw [cnt_add hw hp6 hx, hrow x hx, cnL]; by_cases q9 : lfB T p (i + 1) x = true <;> simp [q9, q]) ⟨hfr.1, hfr.2.1, hfr.2.2⟩
set_option maxRecDepth 100000 in
set_option maxHeartbeats 1000000 in
theorem cnt_F {d n0 z : Nat} {κ : Kd} {h0 : Hp} (hd : 9 ≤ d) {s : St} {T T2 : Tx} {c g th u F k pa tu rd tk : St} {p : Nat} {w : Int32} (hw : wfT T) (hp6 : p < 6) : GV (IB z h0) MX11_countLeft (d, 0, 0, n0, κ) (mkF s T T2 c g th u F k pa tu rd tk) 0 [some (.ref z), some (.int (nI p)), some (.int (w)), none, none] [] (fun v S' => v = none ∧ ∃ s' th' k' : St, S' = mkF s' T T2 c g th' u F k' pa tu rd tk ∧ (∀ x, x < 60 → s'.2.1 15 x = cnL T p w 30 x) ∧ frW s s') := by
  refine GV.aload_n dX11_countLeft_0 rfl ?_
  refine GV.getf okX11 15 (fun h H => H.aown.1) fl_X11_83 dX11_countLeft_1 (by decide) rfl ?_
  refine GV.iconst (v := 0) dX11_countLeft_4 (by decide) ?_
  refine GV.cS2 yoJ7_fill_53178 ml_X11_407 st_J7_fill_53178 dX11_countLeft_5 (Nat.le_of_ble_eq_true rfl) (by omega) rfl (Nat.le_of_ble_eq_true rfl) (GV.up (fun h H => fillI_V (by omega) (by decide) (C11_r15 H.aown)) (fun h v h' H q => ⟨q.1, H.ws (isR.setAR C11_ok H.aown C11_in15 (by decide) _ q.2.1 q.2.2) rfl rfl (fun b hb => q.2.2 b (by omega))⟩)) (GV.wrK ?_)
  refine GV.iconst (v := 1) dX11_countLeft_8 (by decide) ?_
  refine GV.istore_n dX11_countLeft_9 (by decide) rfl ?_
  refine GV.weak [some (.ref z), some (.int (nI p)), some (.int (w)), some (.int (nI (0 + 1))), none] (by simp [leL, sto1, sto2, k2c]; try rfl) ?_
  exact cnt_out (s := s) (by omega) hw hp6 30 0 _ _ _ (by omega) (fun x _ => rfl) ⟨rfl, rfl, rfl⟩
/-- at worst, by the class's row -/
def wcF (T : Tx) (p : Nat) (S a : Int32) (v : Int32) : Int32 := cMax (cnL T p S 30 (nat v)) (a - cnL T p S 30 (nat v))
def cAsk (T : Tx) (F : St) (p : Nat) (y : Int32) : Int32 := if y = 0 then nI (boF (wcF T p (cLenA T F p) (bcI (cLenA T F p))) 59) else wcF T p (cLenA T F p) (bcI (cLenA T F p)) (nI (boF (wcF T p (cLenA T F p) (bcI (cLenA T F p))) 59))
theorem wc_row {s : St} {T : Tx} {p i : Nat} {S a : Int32} (hr : ∀ x, x < 60 → s.2.1 15 x = cnL T p S 30 x) (hi : i < 60) : cMax (s.2.1 15 i) (a - s.2.1 15 i) = wcF T p S a (nI i) := by
  unfold wcF
  rw [hr i hi, show nat (nI i) = i from nI_clamp (by omega)]
set_option maxRecDepth 100000 in
set_option maxHeartbeats 2000000 in
theorem ask_loop {d n0 z : Nat} {κ : Kd} {h0 : Hp} (hd : 3 ≤ d) {s : St} {T T2 : Tx} {c g th u F k pa tu rd tk : St} {p : Nat} {y w a : Int32} (hr : ∀ x, x < 60 → s.2.1 15 x = cnL T p w 30 x) : ∀ (j i : Nat), i + j = 59 → GV (IB z h0) MX11_ask (d, 0, 0, n0, κ) (mkF s T T2 c g th u F k pa tu rd tk) 43 [some (.ref z), some (.int (nI p)), some (.int (y)), some (.int (w)), some (.int (a)), some (.int (nI (boF (wcF T p w a) i))), some (.int (nI (i + 1)))] [] (gR (mkF s T T2 c g th u F k pa tu rd tk) (.int (if y = 0 then nI (boF (wcF T p w a) 59) else wcF T p w a (nI (boF (wcF T p w a) 59))))) := by
  intro j
  induction j with
  | zero =>
    intro i hij
    have hb := boF_le (W := (wcF T p w a)) 59
    have hin : i = 59 := by omega
    subst hin
    refine GV.iload dX11_ask_43 rfl ?_
    refine GV.aload_n dX11_ask_45 rfl ?_
    refine GV.getf okX11 15 (fun h H => H.aown.1) fl_X11_83 dX11_ask_46 (by decide) rfl ?_
    refine GV.alen (v := nI 60) (fun h H => C11_r15 H.aown) dX11_ask_49 (by decide) rfl ?_
    refine GV.icmp_ge 82 dX11_ask_50 (by decide) (fun _ => ?_) (fun z => absurd (by decide) z)
    refine GV.iload_n dX11_ask_82 rfl ?_
    refine GV.if_ne 91 dX11_ask_83 (by decide) (fun c83 => ?_) (fun c83 => ?_)
    · skip
      refine GV.aload_n dX11_ask_91 rfl ?_
      refine GV.iload dX11_ask_92 rfl ?_
      refine GV.iload dX11_ask_94 rfl ?_
      refine GV.cV2 (ci := 11) yoX11_atWorst ml_X11_404 im_X11_atWorst se_X11_atWorst dX11_ask_96 rfl (fun h H => H.aown.1) (Nat.le_of_ble_eq_true rfl) (by omega) rfl (Nat.le_of_ble_eq_true rfl) (worst_F (i := boF (wcF T p w a) 59) (by omega) (by omega)) (GV.rdK ?_)
      refine GV.iret dX11_ask_99 rfl ?_
      first
      | exact ⟨by rw [if_pos c83], rfl⟩
      | exact ⟨by rw [if_neg c83, wc_row hr (by omega)], rfl⟩
    · skip
      refine GV.iload dX11_ask_86 rfl ?_
      refine GV.goto 99 dX11_ask_88 (by decide) ?_
      refine GV.iret dX11_ask_99 rfl ?_
      first
      | exact ⟨by rw [if_pos c83], rfl⟩
      | exact ⟨by rw [if_neg c83, wc_row hr (by omega)], rfl⟩
  | succ j ih =>
    intro i hij
    have hb := boF_le (W := (wcF T p w a)) i
    refine GV.iload dX11_ask_43 rfl ?_
    refine GV.aload_n dX11_ask_45 rfl ?_
    refine GV.getf okX11 15 (fun h H => H.aown.1) fl_X11_83 dX11_ask_46 (by decide) rfl ?_
    refine GV.alen (v := nI 60) (fun h H => C11_r15 H.aown) dX11_ask_49 (by decide) rfl ?_
    refine GV.icmp_ge 82 dX11_ask_50 (by decide) (fun z => absurd z (nI_ge (a := i + 1) (b := 60) (by omega) (by omega))) (fun _ => ?_)
    refine GV.aload_n dX11_ask_53 rfl ?_
    refine GV.iload dX11_ask_54 rfl ?_
    refine GV.iload dX11_ask_56 rfl ?_
    refine GV.cV2 (ci := 11) yoX11_atWorst ml_X11_404 im_X11_atWorst se_X11_atWorst dX11_ask_58 rfl (fun h H => H.aown.1) (Nat.le_of_ble_eq_true rfl) (by omega) rfl (Nat.le_of_ble_eq_true rfl) (worst_F (i := i + 1) (by omega) (by omega)) (GV.rdK ?_)
    refine GV.aload_n dX11_ask_61 rfl ?_
    refine GV.iload dX11_ask_62 rfl ?_
    refine GV.iload dX11_ask_64 rfl ?_
    refine GV.cV2 (ci := 11) yoX11_atWorst ml_X11_404 im_X11_atWorst se_X11_atWorst dX11_ask_66 rfl (fun h H => H.aown.1) (Nat.le_of_ble_eq_true rfl) (by omega) rfl (Nat.le_of_ble_eq_true rfl) (worst_F (i := boF (wcF T p w a) i) (by omega) (by omega)) (GV.rdK ?_)
    refine GV.icmp_ge 76 dX11_ask_69 (by decide) (fun c69 => ?_) (fun c69 => ?_)
    · skip
      have q : boF (wcF T p w a) (i + 1) = boF (wcF T p w a) i := by rw [boF, if_neg (by rw [wc_row hr (by omega), wc_row hr (by omega)] at c69; exact Int32.not_lt.mpr c69)]
      refine GV.iinc (v := 1) dX11_ask_76 rfl (by decide) (by decide) rfl ?_
      refine GV.goto 43 dX11_ask_79 (by decide) ?_
      refine GV.weak [some (.ref z), some (.int (nI p)), some (.int (y)), some (.int (w)), some (.int (a)), some (.int (nI (boF (wcF T p w a) (i + 1)))), some (.int (nI ((i + 1) + 1)))] (by simp [leL, sto1, sto2, k2c, nI_1, q]; try rfl) ?_
      exact ih (i + 1) (by omega)
    · skip
      have q : boF (wcF T p w a) (i + 1) = i + 1 := by rw [boF, if_pos (by rw [wc_row hr (by omega), wc_row hr (by omega)] at c69; exact Int32.not_le.mp c69)]
      refine GV.iload dX11_ask_72 rfl ?_
      refine GV.istore dX11_ask_74 (by decide) rfl ?_
      refine GV.iinc (v := 1) dX11_ask_76 rfl (by decide) (by decide) rfl ?_
      refine GV.goto 43 dX11_ask_79 (by decide) ?_
      refine GV.weak [some (.ref z), some (.int (nI p)), some (.int (y)), some (.int (w)), some (.int (a)), some (.int (nI (boF (wcF T p w a) (i + 1)))), some (.int (nI ((i + 1) + 1)))] (by simp [leL, sto1, sto2, k2c, nI_1, q]; try rfl) ?_
      exact ih (i + 1) (by omega)
set_option maxRecDepth 100000 in
set_option maxHeartbeats 2000000 in
theorem ask_F {d n0 z : Nat} {κ : Kd} {h0 : Hp} (hd : 13 ≤ d) {s : St} {T T2 : Tx} {c g th u F k pa tu rd tk : St} {x y : Int32} (hw : wfT T) (hI : ∀ q, q < nat (T.1.1 0) → T.1.2.1 2 q = nI (nat (T.1.2.1 2 q))) (hk1 : fBy F = nI (mkn F)) (hk2 : mkn F ≤ 24) (hF : okN (F.1 0) 25) (hl : ∀ q, q < 6 → okN (latF F (cntF (F.2.1 6) (mkn F) 0 0) (nI q) (nat (F.1 0))) 61) : GV (IB z h0) MX11_ask (d, 0, 0, n0, κ) (mkF s T T2 c g th u F k pa tu rd tk) 0 [some (.ref z), some (.int (x)), some (.int (y)), none, none, none, none] [] (fun v S' => v = some (.int (if isManB (T.1.1 0) x = true ∧ (y = 0 ∨ y = 1) then cAsk T F (nat x) y else -1)) ∧ ∃ s' th' k' : St, S' = mkF s' T T2 c g th' u F k' pa tu rd tk ∧ frW s s') := by
  refine GV.aload_n dX11_ask_0 rfl ?_
  refine GV.iload_n dX11_ask_1 rfl ?_
  refine GV.cV1 (ci := 11) yoX11_isPerson ml_X11_120 im_X11_isPerson se_X11_isPerson dX11_ask_2 rfl (fun h H => H.aown.1) (Nat.le_of_ble_eq_true rfl) (by omega) rfl (Nat.le_of_ble_eq_true rfl) (isPerson_F (by omega)) (GV.rdK ?_)
  refine GV.if_eq 17 dX11_ask_5 (by decide) (fun c5 => ?_) (fun c5 => ?_)
  · skip
    have hno := bI_f c5
    have hA : ¬ (isManB (T.1.1 0) x = true ∧ (y = 0 ∨ y = 1)) := fun z => by rw [hno] at z; exact absurd z.1 (by decide)
    refine GV.iconst (v := (-1)) dX11_ask_17 (by decide) ?_
    refine GV.iret dX11_ask_18 rfl ?_
    rw [if_neg hA]
    exact ⟨rfl, s, th, k, rfl, rfl, rfl, rfl⟩
  · skip
    have hman := bI_t c5
    obtain ⟨p, rfl, hpn, hp6, hnp⟩ := man_of hw hman
    refine GV.iload_n dX11_ask_8 rfl ?_
    refine GV.if_eq 19 dX11_ask_9 (by decide) (fun c9 => ?_) (fun c9 => ?_)
    · skip
      have hy : y = 0 ∨ y = 1 := Or.inl c9
      refine GV.aload_n dX11_ask_19 rfl ?_
      refine GV.iload_n dX11_ask_20 rfl ?_
      refine GV.cV1 (ci := 11) yoX11_lengthsOf ml_X11_382 im_X11_lengthsOf se_X11_lengthsOf dX11_ask_21 rfl (fun h H => H.aown.1) (Nat.le_of_ble_eq_true rfl) (by omega) rfl (Nat.le_of_ble_eq_true rfl) (lensOf_F (by omega) hw hp6 hI hk1 hk2 hF hl) (?_)
      rintro _ _ ⟨rfl, th1, k1, rfl⟩
      refine GV.istore_n dX11_ask_24 (by decide) rfl ?_
      refine GV.iload_n dX11_ask_25 rfl ?_
      refine GV.cS1 yoJ6_bitCount_0f7a4 ml_X11_356 st_J6_bitCount_0f7a4 dX11_ask_26 (Nat.le_of_ble_eq_true rfl) (by omega) rfl (Nat.le_of_ble_eq_true rfl) (GV.rd (fun h H => bitCountI_V (by omega))) (GV.rdK ?_)
      refine GV.istore dX11_ask_29 (by decide) rfl ?_
      refine GV.aload_n dX11_ask_31 rfl ?_
      refine GV.iload_n dX11_ask_32 rfl ?_
      refine GV.iload_n dX11_ask_33 rfl ?_
      refine GV.cV2 (ci := 11) yoX11_countLeft ml_X11_401 im_X11_countLeft se_X11_countLeft dX11_ask_34 rfl (fun h H => H.aown.1) (Nat.le_of_ble_eq_true rfl) (by omega) rfl (Nat.le_of_ble_eq_true rfl) (cnt_F (by omega) hw hp6) (?_)
      rintro _ _ ⟨rfl, s2, th2, k2, rfl, hr2, hf2⟩
      refine GV.iconst (v := 0) dX11_ask_37 (by decide) ?_
      refine GV.istore dX11_ask_38 (by decide) rfl ?_
      refine GV.iconst (v := 1) dX11_ask_40 (by decide) ?_
      refine GV.istore dX11_ask_41 (by decide) rfl ?_
      refine GV.weak [some (.ref z), some (.int (nI p)), some (.int (y)), some (.int (cLenA T F p)), some (.int (bcI (cLenA T F p))), some (.int (nI (boF (wcF T p (cLenA T F p) (bcI (cLenA T F p))) 0))), some (.int (nI (0 + 1)))] (by simp [leL, sto1, sto2, k2c, boF]; exact ⟨rfl, rfl⟩) ?_
      refine GV.post ?_ (ask_loop (by omega) hr2 59 0 (by omega))
      rintro _ _ ⟨rfl, rfl⟩
      refine ⟨?_, _, _, _, rfl, hf2⟩
      have e9 : (if isManB (T.1.1 0) (nI p) = true ∧ (y = 0 ∨ y = 1) then cAsk T F (nat (nI p)) y else -1) = cAsk T F p y := by rw [if_pos ⟨hman, hy⟩, hnp]
      rw [e9]
      rfl
    · skip
      refine GV.iload_n dX11_ask_12 rfl ?_
      refine GV.iconst (v := 1) dX11_ask_13 (by decide) ?_
      refine GV.icmp_eq 19 dX11_ask_14 (by decide) (fun c14 => ?_) (fun c14 => ?_)
      · skip
        have hy : y = 0 ∨ y = 1 := Or.inr c14
        refine GV.aload_n dX11_ask_19 rfl ?_
        refine GV.iload_n dX11_ask_20 rfl ?_
        refine GV.cV1 (ci := 11) yoX11_lengthsOf ml_X11_382 im_X11_lengthsOf se_X11_lengthsOf dX11_ask_21 rfl (fun h H => H.aown.1) (Nat.le_of_ble_eq_true rfl) (by omega) rfl (Nat.le_of_ble_eq_true rfl) (lensOf_F (by omega) hw hp6 hI hk1 hk2 hF hl) (?_)
        rintro _ _ ⟨rfl, th1, k1, rfl⟩
        refine GV.istore_n dX11_ask_24 (by decide) rfl ?_
        refine GV.iload_n dX11_ask_25 rfl ?_
        refine GV.cS1 yoJ6_bitCount_0f7a4 ml_X11_356 st_J6_bitCount_0f7a4 dX11_ask_26 (Nat.le_of_ble_eq_true rfl) (by omega) rfl (Nat.le_of_ble_eq_true rfl) (GV.rd (fun h H => bitCountI_V (by omega))) (GV.rdK ?_)
        refine GV.istore dX11_ask_29 (by decide) rfl ?_
        refine GV.aload_n dX11_ask_31 rfl ?_
        refine GV.iload_n dX11_ask_32 rfl ?_
        refine GV.iload_n dX11_ask_33 rfl ?_
        refine GV.cV2 (ci := 11) yoX11_countLeft ml_X11_401 im_X11_countLeft se_X11_countLeft dX11_ask_34 rfl (fun h H => H.aown.1) (Nat.le_of_ble_eq_true rfl) (by omega) rfl (Nat.le_of_ble_eq_true rfl) (cnt_F (by omega) hw hp6) (?_)
        rintro _ _ ⟨rfl, s2, th2, k2, rfl, hr2, hf2⟩
        refine GV.iconst (v := 0) dX11_ask_37 (by decide) ?_
        refine GV.istore dX11_ask_38 (by decide) rfl ?_
        refine GV.iconst (v := 1) dX11_ask_40 (by decide) ?_
        refine GV.istore dX11_ask_41 (by decide) rfl ?_
        refine GV.weak [some (.ref z), some (.int (nI p)), some (.int (y)), some (.int (cLenA T F p)), some (.int (bcI (cLenA T F p))), some (.int (nI (boF (wcF T p (cLenA T F p) (bcI (cLenA T F p))) 0))), some (.int (nI (0 + 1)))] (by simp [leL, sto1, sto2, k2c, boF]; exact ⟨rfl, rfl⟩) ?_
        refine GV.post ?_ (ask_loop (by omega) hr2 59 0 (by omega))
        rintro _ _ ⟨rfl, rfl⟩
        refine ⟨?_, _, _, _, rfl, hf2⟩
        have e9 : (if isManB (T.1.1 0) (nI p) = true ∧ (y = 0 ∨ y = 1) then cAsk T F (nat (nI p)) y else -1) = cAsk T F p y := by rw [if_pos ⟨hman, hy⟩, hnp]
        rw [e9]
        rfl
      · skip
        have hA : ¬ (isManB (T.1.1 0) (nI p) = true ∧ (y = 0 ∨ y = 1)) := fun z => z.2.elim c9 c14
        refine GV.iconst (v := (-1)) dX11_ask_17 (by decide) ?_
        refine GV.iret dX11_ask_18 rfl ?_
        rw [if_neg hA]
        exact ⟨rfl, s, th, k, rfl, rfl, rfl, rfl⟩
