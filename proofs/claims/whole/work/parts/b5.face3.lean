/-! The face of BurntEnds: law, man, count -/
theorem le3_of {x : Int32} (h : 2 < x) : (3 : Int32) ≤ x := by
  rw [Int32.lt_iff_toInt_lt] at h
  rw [Int32.le_iff_toInt_le]
  have e2 : (2 : Int32).toInt = 2 := by decide
  have e3 : (3 : Int32).toInt = 3 := by decide
  omega
set_option maxRecDepth 100000 in
set_option maxHeartbeats 1000000 in
theorem lToldNo_V {d n0 : Nat} {κ : Kd} (hd : 1 ≤ d) {h : Hp} {a : Nat} {s : St} (H : isR C4 h a s) {x : Int32} (hx : x < 0 ∨ 2 < x) : V MX4_isTold (d, 0, 0, n0, κ) 0 0 h 0 [some (.ref (a)), some (.int (x))] [] (Rd h (.int 0)) := by
  refine V.iload_n dX4_isTold_0 rfl ?_
  refine V.if_lt 28 dX4_isTold_1 (by decide) (fun c1 => ?_) (fun c1 => ?_)
  · skip
    refine V.iconst (v := 0) dX4_isTold_28 (by decide) ?_
    refine V.zret .boolean dX4_isTold_29 rfl (rfl) ?_
    exact ⟨rfl, rfl⟩
  · skip
    refine V.iload_n dX4_isTold_4 rfl ?_
    refine V.iconst (v := 3) dX4_isTold_5 (by decide) ?_
    refine V.icmp_ge 28 dX4_isTold_6 (by decide) (fun _ => ?_) (fun z => absurd (le3_of (hx.resolve_left c1)) z)
    refine V.iconst (v := 0) dX4_isTold_28 (by decide) ?_
    refine V.zret .boolean dX4_isTold_29 rfl (rfl) ?_
    exact ⟨rfl, rfl⟩
set_option maxRecDepth 100000 in
set_option maxHeartbeats 1000000 in
theorem worthNo_V {d n0 : Nat} {κ : Kd} (hd : 2 ≤ d) {h : Hp} {a b0 : Nat} {s : St} (H : isR C4 h a s) {x y w : Int32} (hx : x < 0 ∨ 2 < x) : V MX4_worth (d, 0, 0, n0, κ) 0 0 h 0 [some (.ref (a)), some (.int (x)), some (.ref (b0)), some (.int (y)), some (.int (w)), none, none, none, none, none] [] (Rd h (.long ERR)) := by
  refine V.aload_n dX4_worth_0 rfl ?_
  refine V.iload_n dX4_worth_1 rfl ?_
  refine V.cV1 (ci := 4) yoX4_isTold ml_X4_41 im_X4_isTold se_X4_isTold dX4_worth_2 rfl H.1 (Nat.le_of_ble_eq_true rfl) (by omega) ⟨Nat.le_refl _, Nat.le_refl _⟩ rfl (Nat.le_of_ble_eq_true rfl) (lToldNo_V (by omega) H hx) (V.rdK ?_)
  refine V.if_ne 12 dX4_worth_5 (by decide) (fun z => absurd (show (0 : Int32) = 0 from rfl) z) (fun _ => ?_)
  refine V.ldc2 kc_X4_45 dX4_worth_8 ?_
  refine V.lret dX4_worth_11 rfl ?_
  exact ⟨rfl, rfl⟩
set_option maxRecDepth 100000 in
set_option maxHeartbeats 1000000 in
theorem lawNo_F {d n0 z : Nat} {κ : Kd} {h0 : Hp} (hd : 3 ≤ d) {s : St} {T T2 : Tx} {c g th u F k pa tu rd tk : St} {x y : Int32} (hw : wfT T) (hx : x < 0 ∨ 2 < x) : GV (IB z h0) MX11_law (d, 0, 0, n0, κ) (mkF s T T2 c g th u F k pa tu rd tk) 0 [some (.ref z), some (.int (x)), some (.int (y))] [] (gR (mkF s T T2 c g th u F k pa tu rd tk) (.long (aLaw T c x y))) := by
  refine GV.aload_n dX11_law_0 rfl ?_
  refine GV.iload_n dX11_law_1 rfl ?_
  refine GV.cV1 (ci := 11) yoX11_isPerson ml_X11_120 im_X11_isPerson se_X11_isPerson dX11_law_2 rfl (fun h H => H.aown.1) (Nat.le_of_ble_eq_true rfl) (by omega) rfl (Nat.le_of_ble_eq_true rfl) (isPerson_F (by omega)) (GV.rdK ?_)
  refine GV.if_ne 12 dX11_law_5 (by decide) (fun c5 => ?_) (fun c5 => ?_)
  · skip
    have hman := bI_t c5
    refine GV.aload_n dX11_law_12 rfl ?_
    refine GV.getf okX11 3 (fun h H => H.aown.1) fl_X11_25 dX11_law_13 (by decide) rfl ?_
    refine GV.getf okX8 9 (fun h H => H.aT.1.1) fl_X11_180 dX11_law_16 (by decide) rfl ?_
    refine GV.iload_n dX11_law_19 rfl ?_
    refine GV.aload_n dX11_law_20 rfl ?_
    refine GV.getf okX11 5 (fun h H => H.aown.1) fl_X11_35 dX11_law_21 (by decide) rfl ?_
    refine GV.iload_n dX11_law_24 rfl ?_
    refine GV.aload_n dX11_law_25 rfl ?_
    refine GV.getf okX11 3 (fun h H => H.aown.1) fl_X11_25 dX11_law_26 (by decide) rfl ?_
    refine GV.cV0 (ci := 8) yoX8_isWindyAsItGoes ml_X11_184 im_X8_isWindyAsItGoes se_X8_isWindyAsItGoes dX11_law_29 rfl (fun h H => H.aT.1.1) (Nat.le_of_ble_eq_true rfl) (by omega) rfl (Nat.le_of_ble_eq_true rfl) (GV.rd (fun h H => tWindy_V (by omega) H.aT.1)) (GV.rdK ?_)
    refine GV.cV4 (ci := 4) yoX4_worth ml_X11_188 im_X4_worth se_X4_worth dX11_law_32 rfl (fun h H => H.alaws) (Nat.le_of_ble_eq_true rfl) (by omega) rfl (Nat.le_of_ble_eq_true rfl) (GV.rd (fun h H => H.aT.2.2.2.elim fun _ q => worthNo_V (by omega) q hx)) (GV.rdK ?_)
    refine GV.lret dX11_law_35 rfl ?_
    refine ⟨?_, rfl⟩
    unfold aLaw
    rw [if_neg (fun z => hx.elim z.2.1 z.2.2)]
    first | done | rfl
  · skip
    have hno := bI_f c5
    refine GV.ldc2 kc_X11_178 dX11_law_8 ?_
    refine GV.lret dX11_law_11 rfl ?_
    refine ⟨?_, rfl⟩
    unfold aLaw
    rw [if_neg (fun z => hx.elim z.2.1 z.2.2)]
    first | done | rfl
set_option maxRecDepth 100000 in
set_option maxHeartbeats 1000000 in
theorem lawR_F {d n0 z : Nat} {κ : Kd} {h0 : Hp} (hd : 5 ≤ d) {s : St} {T T2 : Tx} {c g th u F k pa tu rd tk : St} {r : Nat} {y : Int32} (hw : wfT T) (hr : r < 3) : GV (IB z h0) MX11_law (d, 0, 0, n0, κ) (mkF s T T2 c g th u F k pa tu rd tk) 0 [some (.ref z), some (.int (nI r)), some (.int (y))] [] (gR (mkF s T T2 c g th u F k pa tu rd tk) (.long (aLaw T c (nI r) y))) := by
  refine GV.aload_n dX11_law_0 rfl ?_
  refine GV.iload_n dX11_law_1 rfl ?_
  refine GV.cV1 (ci := 11) yoX11_isPerson ml_X11_120 im_X11_isPerson se_X11_isPerson dX11_law_2 rfl (fun h H => H.aown.1) (Nat.le_of_ble_eq_true rfl) (by omega) rfl (Nat.le_of_ble_eq_true rfl) (isPerson_F (by omega)) (GV.rdK ?_)
  refine GV.if_ne 12 dX11_law_5 (by decide) (fun c5 => ?_) (fun c5 => ?_)
  · skip
    have hman := bI_t c5
    obtain ⟨p, rfl, hpn, hp6, hnp⟩ := man_of hw hman
    refine GV.aload_n dX11_law_12 rfl ?_
    refine GV.getf okX11 3 (fun h H => H.aown.1) fl_X11_25 dX11_law_13 (by decide) rfl ?_
    refine GV.getf okX8 9 (fun h H => H.aT.1.1) fl_X11_180 dX11_law_16 (by decide) rfl ?_
    refine GV.iload_n dX11_law_19 rfl ?_
    refine GV.aload_n dX11_law_20 rfl ?_
    refine GV.getf okX11 5 (fun h H => H.aown.1) fl_X11_35 dX11_law_21 (by decide) rfl ?_
    refine GV.iload_n dX11_law_24 rfl ?_
    refine GV.aload_n dX11_law_25 rfl ?_
    refine GV.getf okX11 3 (fun h H => H.aown.1) fl_X11_25 dX11_law_26 (by decide) rfl ?_
    refine GV.cV0 (ci := 8) yoX8_isWindyAsItGoes ml_X11_184 im_X8_isWindyAsItGoes se_X8_isWindyAsItGoes dX11_law_29 rfl (fun h H => H.aT.1.1) (Nat.le_of_ble_eq_true rfl) (by omega) rfl (Nat.le_of_ble_eq_true rfl) (GV.rd (fun h H => tWindy_V (by omega) H.aT.1)) (GV.rdK ?_)
    refine GV.cV4 (ci := 4) yoX4_worth ml_X11_188 im_X4_worth se_X4_worth dX11_law_32 rfl (fun h H => H.alaws) (Nat.le_of_ble_eq_true rfl) (by omega) rfl (Nat.le_of_ble_eq_true rfl) (GV.lift (P1 := gW (some (.long (tW T r c p (tWindy T.1)))) (mkF s T T2 c g th u F k pa tu rd tk)) (fun h H => worthT_V (r := r) (by omega) H.aT.2.2.2 H.ac hw (H.apc) hpn hr) (fun h v h' H q => ⟨_, ⟨q.1, rfl⟩, H.wL q.2.1 q.2.2⟩)) (GV.wrK ?_)
    refine GV.lret dX11_law_35 rfl ?_
    refine ⟨?_, rfl⟩
    unfold aLaw
    rw [if_pos ⟨hman, nI_pos (by omega), fun z => (nI_ge (a := r) (b := 3) hr (by decide)) (le3_of z)⟩, hnp, show nat (nI r) = r from nI_clamp (by omega)]
  · skip
    have hno := bI_f c5
    refine GV.ldc2 kc_X11_178 dX11_law_8 ?_
    refine GV.lret dX11_law_11 rfl ?_
    refine ⟨?_, rfl⟩
    unfold aLaw
    rw [if_neg (fun z => by rw [hno] at z; exact absurd z.1 (by decide))]
    rfl
theorem law_F {d n0 z : Nat} {κ : Kd} {h0 : Hp} (hd : 5 ≤ d) {s : St} {T T2 : Tx} {c g th u F k pa tu rd tk : St} {x y : Int32} (hw : wfT T) : GV (IB z h0) MX11_law (d, 0, 0, n0, κ) (mkF s T T2 c g th u F k pa tu rd tk) 0 [some (.ref z), some (.int x), some (.int y)] [] (gR (mkF s T T2 c g th u F k pa tu rd tk) (.long (aLaw T c x y))) := by
  by_cases h1 : x < 0
  · exact lawNo_F (by omega) hw (Or.inl h1)
  by_cases h2 : 2 < x
  · exact lawNo_F (by omega) hw (Or.inr h2)
  obtain ⟨r, hr, rfl⟩ := nI_of h1
  exact lawR_F hd hw (Nat.not_le.mp fun z => h2 (show nI 2 < nI r from nI_lt (by omega) hr))
set_option maxRecDepth 100000 in
set_option maxHeartbeats 1000000 in
theorem manV_F {d n0 z : Nat} {κ : Kd} {h0 : Hp} (hd : 3 ≤ d) {s : St} {T T2 : Tx} {c g th u F k pa tu rd tk : St} {x y : Int32} (hw : wfT T) (hp : c.1 0 = T.1.1 0) (hc : aManC T x y = 0) : GV (IB z h0) MX11_man (d, 0, 0, n0, κ) (mkF s T T2 c g th u F k pa tu rd tk) 0 [some (.ref z), some (.int (x)), some (.int (y)), none] [] (gR (mkF s T T2 c g th u F k pa tu rd tk) (.int (aManV T c (nat x) y))) := by
  have hman : isManB (T.1.1 0) x = true := by
    apply Classical.byContradiction
    intro z
    unfold aManC at hc
    rw [if_neg z] at hc
    exact absurd hc (by decide)
  obtain ⟨p, rfl, hpn, hp6, hnp⟩ := man_of hw hman
  have hy : ¬ y < 0 ∧ ¬ 7 < y := by
    unfold aManC at hc
    rw [if_pos hman] at hc
    constructor
    · intro z
      rw [if_pos z] at hc
      exact absurd hc (by decide)
    · intro z
      by_cases q : y < 0
      · rw [if_pos q] at hc
        exact absurd hc (by decide)
      · rw [if_neg q, if_pos z] at hc
        exact absurd hc (by decide)
  obtain ⟨m, hm, rfl⟩ := nI_of hy.1
  have hm8 : m < 8 := Nat.not_le.mp fun z => hy.2 (show nI 7 < nI m from nI_lt (by omega) hm)
  refine GV.aload_n dX11_man_0 rfl ?_
  refine GV.iload_n dX11_man_1 rfl ?_
  refine GV.cV1 (ci := 11) yoX11_isPerson ml_X11_120 im_X11_isPerson se_X11_isPerson dX11_man_2 rfl (fun h H => H.aown.1) (Nat.le_of_ble_eq_true rfl) (by omega) rfl (Nat.le_of_ble_eq_true rfl) (isPerson_F (by omega)) (GV.rdK ?_)
  refine GV.if_ne 18 dX11_man_5 (by decide) (fun _ => ?_) (fun z => absurd z (fun z => absurd (bI_f z) (by rw [hman]; decide)))
  refine GV.aload_n dX11_man_18 rfl ?_
  refine GV.getf okX11 5 (fun h H => H.aown.1) fl_X11_35 dX11_man_19 (by decide) rfl ?_
  refine GV.iload_n dX11_man_22 rfl ?_
  refine GV.cV1 (ci := 0) yoX0_leftOf ml_X11_131 im_X0_leftOf se_X0_leftOf dX11_man_23 rfl (fun h H => H.ac.1) (Nat.le_of_ble_eq_true rfl) (by omega) rfl (Nat.le_of_ble_eq_true rfl) (GV.rd (fun h H => leftOf_V (by omega) H.ac hp6)) (GV.rdK ?_)
  refine GV.istore_n dX11_man_26 (by decide) rfl ?_
  refine GV.iload_n dX11_man_27 rfl ?_
  refine GV.tswG [(0, 76), (1, 86), (2, 88), (3, 107), (4, 138), (5, 148), (6, 157), (7, 171)] 181 dX11_man_28 (by decide) (by decide +kernel) (fa_cons (fun cs28 => ?_) (fa_cons (fun cs28 => ?_) (fa_cons (fun cs28 => ?_) (fa_cons (fun cs28 => ?_) (fa_cons (fun cs28 => ?_) (fa_cons (fun cs28 => ?_) (fa_cons (fun cs28 => ?_) (fa_cons (fun cs28 => ?_) fa_nil)))))))) (fun co28 => ?_)
  · skip
    refine GV.aload_n dX11_man_76 rfl ?_
    refine GV.getf okX11 3 (fun h H => H.aown.1) fl_X11_25 dX11_man_77 (by decide) rfl ?_
    refine GV.getf okX8 2 (fun h H => H.aT.1.1) fl_X11_134 dX11_man_80 (by decide) rfl ?_
    refine GV.iload_n dX11_man_83 rfl ?_
    refine GV.ald (fun h H => C8_r2 H.aT.1) dX11_man_84 (rfl) (hp6) (by decide) ?_
    refine GV.iret dX11_man_85 rfl ?_
    refine ⟨?_, rfl⟩
    unfold aManV
    simp_all [bI]
  · skip
    refine GV.iload_n dX11_man_86 rfl ?_
    refine GV.iret dX11_man_87 rfl ?_
    refine ⟨?_, rfl⟩
    unfold aManV
    simp_all [bI]
  · skip
    refine GV.iload_n dX11_man_88 rfl ?_
    refine GV.if_ne 97 dX11_man_89 (by decide) (fun c89 => ?_) (fun c89 => ?_)
    · skip
      have hl : ¬ cLeft c p = 0 := c89
      refine GV.aload_n dX11_man_97 rfl ?_
      refine GV.getf okX11 5 (fun h H => H.aown.1) fl_X11_35 dX11_man_98 (by decide) rfl ?_
      refine GV.getf okX0 3 (fun h H => H.ac.1) fl_X11_137 dX11_man_101 (by decide) rfl ?_
      refine GV.iload_n dX11_man_104 rfl ?_
      refine GV.ald (fun h H => C0_r3 H.ac) dX11_man_105 (rfl) (hp6) (by decide) ?_
      refine GV.iret dX11_man_106 rfl ?_
      refine ⟨?_, rfl⟩
      unfold aManV
      simp_all [bI]
    · skip
      have hl := c89
      refine GV.bipush (v := (-2)) dX11_man_92 (by decide) ?_
      refine GV.goto 106 dX11_man_94 (by decide) ?_
      refine GV.iret dX11_man_106 rfl ?_
      refine ⟨?_, rfl⟩
      unfold aManV
      simp_all [bI]
  · skip
    refine GV.iload_n dX11_man_107 rfl ?_
    refine GV.if_ne 116 dX11_man_108 (by decide) (fun c108 => ?_) (fun c108 => ?_)
    · skip
      have hl : ¬ cLeft c p = 0 := c108
      refine GV.aload_n dX11_man_116 rfl ?_
      refine GV.getf okX11 5 (fun h H => H.aown.1) fl_X11_35 dX11_man_117 (by decide) rfl ?_
      refine GV.getf okX0 1 (fun h H => H.ac.1) fl_X11_140 dX11_man_120 (by decide) rfl ?_
      refine GV.iload_n dX11_man_123 rfl ?_
      refine GV.ald (fun h H => C0_r1 H.ac) dX11_man_124 (rfl) (hp6) (by decide) ?_
      refine GV.aload_n dX11_man_125 rfl ?_
      refine GV.getf okX11 5 (fun h H => H.aown.1) fl_X11_35 dX11_man_126 (by decide) rfl ?_
      refine GV.getf okX0 4 (fun h H => H.ac.1) fl_X11_141 dX11_man_129 (by decide) rfl ?_
      refine GV.iload_n dX11_man_132 rfl ?_
      refine GV.ald (fun h H => C0_r4 H.ac) dX11_man_133 (rfl) (hp6) (by decide) ?_
      refine GV.isub dX11_man_134 ?_
      refine GV.iconst (v := 1) dX11_man_135 (by decide) ?_
      refine GV.isub dX11_man_136 ?_
      refine GV.iret dX11_man_137 rfl ?_
      refine ⟨?_, rfl⟩
      unfold aManV
      simp_all [bI]
    · skip
      have hl := c108
      refine GV.bipush (v := (-2)) dX11_man_111 (by decide) ?_
      refine GV.goto 137 dX11_man_113 (by decide) ?_
      refine GV.iret dX11_man_137 rfl ?_
      refine ⟨?_, rfl⟩
      unfold aManV
      simp_all [bI]
  · skip
    refine GV.aload_n dX11_man_138 rfl ?_
    refine GV.getf okX11 5 (fun h H => H.aown.1) fl_X11_35 dX11_man_139 (by decide) rfl ?_
    refine GV.getf okX0 5 (fun h H => H.ac.1) fl_X11_144 dX11_man_142 (by decide) rfl ?_
    refine GV.iload_n dX11_man_145 rfl ?_
    refine GV.ald (fun h H => C0_r5 H.ac) dX11_man_146 (rfl) (by omega) (by decide) ?_
    refine GV.iret dX11_man_147 rfl ?_
    refine ⟨?_, rfl⟩
    unfold aManV
    simp_all [bI]
  · skip
    refine GV.aload_n dX11_man_148 rfl ?_
    refine GV.getf okX11 5 (fun h H => H.aown.1) fl_X11_35 dX11_man_149 (by decide) rfl ?_
    refine GV.iload_n dX11_man_152 rfl ?_
    refine GV.cV1 (ci := 0) yoX0_junesLeft ml_X11_147 im_X0_junesLeft se_X0_junesLeft dX11_man_153 rfl (fun h H => H.ac.1) (Nat.le_of_ble_eq_true rfl) (by omega) rfl (Nat.le_of_ble_eq_true rfl) (GV.rd (fun h H => junesLeft_V (by omega) H.ac hp6)) (GV.rdK ?_)
    refine GV.iret dX11_man_156 rfl ?_
    refine ⟨?_, rfl⟩
    unfold aManV
    simp_all [bI]
  · skip
    refine GV.aload_n dX11_man_157 rfl ?_
    refine GV.iload_n dX11_man_158 rfl ?_
    refine GV.cV1 (ci := 11) yoX11_sees ml_X11_150 im_X11_sees se_X11_sees dX11_man_159 rfl (fun h H => H.aown.1) (Nat.le_of_ble_eq_true rfl) (by omega) rfl (Nat.le_of_ble_eq_true rfl) (sees_F (by omega) hp6 hw hp) (GV.rdK ?_)
    refine GV.if_eq 169 dX11_man_162 (by decide) (fun c162 => ?_) (fun c162 => ?_)
    · skip
      have hb := bI_f c162
      refine GV.iconst (v := 0) dX11_man_169 (by decide) ?_
      refine GV.iret dX11_man_170 rfl ?_
      refine ⟨?_, rfl⟩
      unfold aManV
      simp_all [bI]
    · skip
      have hb := bI_t c162
      refine GV.iconst (v := 1) dX11_man_165 (by decide) ?_
      refine GV.goto 170 dX11_man_166 (by decide) ?_
      refine GV.iret dX11_man_170 rfl ?_
      refine ⟨?_, rfl⟩
      unfold aManV
      simp_all [bI]
  · skip
    refine GV.aload_n dX11_man_171 rfl ?_
    refine GV.getf okX11 5 (fun h H => H.aown.1) fl_X11_35 dX11_man_172 (by decide) rfl ?_
    refine GV.getf okX0 6 (fun h H => H.ac.1) fl_X11_153 dX11_man_175 (by decide) rfl ?_
    refine GV.iload_n dX11_man_178 rfl ?_
    refine GV.ald (fun h H => C0_r6 H.ac) dX11_man_179 (rfl) (hp6) (by decide) ?_
    refine GV.iret dX11_man_180 rfl ?_
    refine ⟨?_, rfl⟩
    unfold aManV
    simp_all [bI]
  · skip
    exfalso
    rcases m with _ | _ | _ | _ | _ | _ | _ | _ | m <;> first | (omega; done) | (revert co28; decide)
    --done
set_option maxRecDepth 100000 in
set_option maxHeartbeats 1000000 in
theorem count_F {d n0 z : Nat} {κ : Kd} {h0 : Hp} (hd : 4 ≤ d) {s : St} {T T2 : Tx} {c g th u F k pa tu rd tk : St} {x : Int32} (hw : wfT T) (hp : c.1 0 = T.1.1 0) : GV (IB z h0) MX11_count (d, 0, 0, n0, κ) (mkF s T T2 c g th u F k pa tu rd tk) 0 [some (.ref z), some (.int (x))] [] (gR (mkF s T T2 c g th u F k pa tu rd tk) (.int (aCount T c u F x))) := by
  refine GV.iload_n dX11_count_0 rfl ?_
  refine GV.tswG [(0, 76), (1, 84), (2, 92), (3, 103), (4, 114), (5, 125), (6, 133), (7, 141), (8, 149), (9, 157), (10, 165), (11, 173), (12, 181), (13, 189), (14, 197)] 205 dX11_count_1 (by decide) (by decide +kernel) (fa_cons (fun cs1 => ?_) (fa_cons (fun cs1 => ?_) (fa_cons (fun cs1 => ?_) (fa_cons (fun cs1 => ?_) (fa_cons (fun cs1 => ?_) (fa_cons (fun cs1 => ?_) (fa_cons (fun cs1 => ?_) (fa_cons (fun cs1 => ?_) (fa_cons (fun cs1 => ?_) (fa_cons (fun cs1 => ?_) (fa_cons (fun cs1 => ?_) (fa_cons (fun cs1 => ?_) (fa_cons (fun cs1 => ?_) (fa_cons (fun cs1 => ?_) (fa_cons (fun cs1 => ?_) fa_nil))))))))))))))) (fun co1 => ?_)
  · skip
    refine GV.aload_n dX11_count_76 rfl ?_
    refine GV.getf okX11 3 (fun h H => H.aown.1) fl_X11_25 dX11_count_77 (by decide) rfl ?_
    refine GV.getf okX8 0 (fun h H => H.aT.1.1) fl_X11_194 dX11_count_80 (by decide) rfl ?_
    refine GV.iret dX11_count_83 rfl ?_
    refine ⟨?_, rfl⟩
    unfold aCount
    simp_all
  · skip
    refine GV.aload_n dX11_count_84 rfl ?_
    refine GV.getf okX11 3 (fun h H => H.aown.1) fl_X11_25 dX11_count_85 (by decide) rfl ?_
    refine GV.getf okX8 5 (fun h H => H.aT.1.1) fl_X11_197 dX11_count_88 (by decide) rfl ?_
    refine GV.iret dX11_count_91 rfl ?_
    refine ⟨?_, rfl⟩
    unfold aCount
    simp_all
  · skip
    refine GV.aload_n dX11_count_92 rfl ?_
    refine GV.getf okX11 3 (fun h H => H.aown.1) fl_X11_25 dX11_count_93 (by decide) rfl ?_
    refine GV.getf okX8 7 (fun h H => H.aT.1.1) fl_X11_200 dX11_count_96 (by decide) rfl ?_
    refine GV.getf okX2 0 (fun h H => H.aT.2.1.1) fl_X11_204 dX11_count_99 (by decide) rfl ?_
    refine GV.iret dX11_count_102 rfl ?_
    refine ⟨?_, rfl⟩
    unfold aCount
    simp_all
  · skip
    refine GV.aload_n dX11_count_103 rfl ?_
    refine GV.getf okX11 3 (fun h H => H.aown.1) fl_X11_25 dX11_count_104 (by decide) rfl ?_
    refine GV.getf okX8 8 (fun h H => H.aT.1.1) fl_X11_209 dX11_count_107 (by decide) rfl ?_
    refine GV.getf okX2 0 (fun h H => H.aT.2.2.1.1) fl_X11_204 dX11_count_110 (by decide) rfl ?_
    refine GV.iret dX11_count_113 rfl ?_
    refine ⟨?_, rfl⟩
    unfold aCount
    simp_all
  · skip
    refine GV.aload_n dX11_count_114 rfl ?_
    refine GV.getf okX11 3 (fun h H => H.aown.1) fl_X11_25 dX11_count_115 (by decide) rfl ?_
    refine GV.getf okX8 9 (fun h H => H.aT.1.1) fl_X11_180 dX11_count_118 (by decide) rfl ?_
    refine GV.getf okX4 0 (fun h H => H.alaws) fl_X11_212 dX11_count_121 (by decide) rfl ?_
    refine GV.iret dX11_count_124 rfl ?_
    refine ⟨?_, rfl⟩
    unfold aCount
    simp_all
  · skip
    refine GV.aload_n dX11_count_125 rfl ?_
    refine GV.getf okX11 5 (fun h H => H.aown.1) fl_X11_35 dX11_count_126 (by decide) rfl ?_
    refine GV.getf okX0 7 (fun h H => H.ac.1) fl_X11_215 dX11_count_129 (by decide) rfl ?_
    refine GV.iret dX11_count_132 rfl ?_
    refine ⟨?_, rfl⟩
    unfold aCount
    simp_all
  · skip
    refine GV.aload_n dX11_count_133 rfl ?_
    refine GV.getf okX11 5 (fun h H => H.aown.1) fl_X11_35 dX11_count_134 (by decide) rfl ?_
    refine GV.cV0 (ci := 0) yoX0_leftOfAll ml_X11_218 im_X0_leftOfAll se_X0_leftOfAll dX11_count_137 rfl (fun h H => H.ac.1) (Nat.le_of_ble_eq_true rfl) (by omega) rfl (Nat.le_of_ble_eq_true rfl) (GV.rd (fun h H => leftOfAll_V (by omega) H.ac (sees_litM hp hw).1 (sees_litM hp hw).2)) (GV.rdK ?_)
    refine GV.iret dX11_count_140 rfl ?_
    refine ⟨?_, rfl⟩
    unfold aCount
    simp_all
  · skip
    refine GV.aload_n dX11_count_141 rfl ?_
    refine GV.getf okX11 5 (fun h H => H.aown.1) fl_X11_35 dX11_count_142 (by decide) rfl ?_
    refine GV.cV0 (ci := 0) yoX0_howManyOut ml_X11_222 im_X0_howManyOut se_X0_howManyOut dX11_count_145 rfl (fun h H => H.ac.1) (Nat.le_of_ble_eq_true rfl) (by omega) rfl (Nat.le_of_ble_eq_true rfl) (GV.rd (fun h H => howManyOut_V (by omega) H.ac (sees_litM hp hw).1 (sees_litM hp hw).2)) (GV.rdK ?_)
    refine GV.iret dX11_count_148 rfl ?_
    refine ⟨?_, rfl⟩
    unfold aCount
    simp_all
  · skip
    refine GV.aload_n dX11_count_149 rfl ?_
    refine GV.getf okX11 5 (fun h H => H.aown.1) fl_X11_35 dX11_count_150 (by decide) rfl ?_
    refine GV.cV0 (ci := 0) yoX0_howManyLit ml_X11_225 im_X0_howManyLit se_X0_howManyLit dX11_count_153 rfl (fun h H => H.ac.1) (Nat.le_of_ble_eq_true rfl) (by omega) rfl (Nat.le_of_ble_eq_true rfl) (GV.rd (fun h H => howManyLit_V (by omega) H.ac (sees_litM hp hw).1 (sees_litM hp hw).2)) (GV.rdK ?_)
    refine GV.iret dX11_count_156 rfl ?_
    refine ⟨?_, rfl⟩
    unfold aCount
    simp_all
  · skip
    refine GV.aload_n dX11_count_157 rfl ?_
    refine GV.getf okX11 5 (fun h H => H.aown.1) fl_X11_35 dX11_count_158 (by decide) rfl ?_
    refine GV.getf okX0 8 (fun h H => H.ac.1) fl_X11_228 dX11_count_161 (by decide) rfl ?_
    refine GV.iret dX11_count_164 rfl ?_
    refine ⟨?_, rfl⟩
    unfold aCount
    simp_all
  · skip
    refine GV.aload_n dX11_count_165 rfl ?_
    refine GV.getf okX11 5 (fun h H => H.aown.1) fl_X11_35 dX11_count_166 (by decide) rfl ?_
    refine GV.getf okX0 9 (fun h H => H.ac.1) fl_X11_231 dX11_count_169 (by decide) rfl ?_
    refine GV.iret dX11_count_172 rfl ?_
    refine ⟨?_, rfl⟩
    unfold aCount
    simp_all
  · skip
    refine GV.aload_n dX11_count_173 rfl ?_
    refine GV.getf okX11 5 (fun h H => H.aown.1) fl_X11_35 dX11_count_174 (by decide) rfl ?_
    refine GV.cV0 (ci := 0) yoX0_seenOfAll ml_X11_234 im_X0_seenOfAll se_X0_seenOfAll dX11_count_177 rfl (fun h H => H.ac.1) (Nat.le_of_ble_eq_true rfl) (by omega) rfl (Nat.le_of_ble_eq_true rfl) (GV.rd (fun h H => seenOfAll_V (by omega) H.ac (sees_litM hp hw).1 (sees_litM hp hw).2)) (GV.rdK ?_)
    refine GV.iret dX11_count_180 rfl ?_
    refine ⟨?_, rfl⟩
    unfold aCount
    simp_all
  · skip
    refine GV.aload_n dX11_count_181 rfl ?_
    refine GV.getf okX11 11 (fun h H => H.aown.1) fl_X11_62 dX11_count_182 (by decide) rfl ?_
    refine GV.getf okX3 0 (fun h H => H.aF.1) fl_X11_237 dX11_count_185 (by decide) rfl ?_
    refine GV.iret dX11_count_188 rfl ?_
    refine ⟨?_, rfl⟩
    unfold aCount
    simp_all
  · skip
    refine GV.aload_n dX11_count_189 rfl ?_
    refine GV.getf okX11 11 (fun h H => H.aown.1) fl_X11_62 dX11_count_190 (by decide) rfl ?_
    refine GV.cV0 (ci := 3) yoX3_knownBy ml_X11_238 im_X3_knownBy se_X3_knownBy dX11_count_193 rfl (fun h H => H.aF.1) (Nat.le_of_ble_eq_true rfl) (by omega) rfl (Nat.le_of_ble_eq_true rfl) (GV.rd (fun h H => fBy_V (by omega) H.aF)) (GV.rdK ?_)
    refine GV.iret dX11_count_196 rfl ?_
    refine ⟨?_, rfl⟩
    unfold aCount
    simp_all
  · skip
    refine GV.aload_n dX11_count_197 rfl ?_
    refine GV.getf okX11 10 (fun h H => H.aown.1) fl_X11_55 dX11_count_198 (by decide) rfl ?_
    refine GV.getf okX10 0 (fun h H => H.au.1) fl_X11_241 dX11_count_201 (by decide) rfl ?_
    refine GV.iret dX11_count_204 rfl ?_
    refine ⟨?_, rfl⟩
    unfold aCount
    simp_all
  · skip
    refine GV.iconst (v := (-1)) dX11_count_205 (by decide) ?_
    refine GV.iret dX11_count_206 rfl ?_
    refine ⟨?_, rfl⟩
    unfold aCount
    simp_all
