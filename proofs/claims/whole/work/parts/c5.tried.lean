/-! The face of BurntEnds: tried, chance -/
theorem passS_c {T : Tx} {k1 k2 : Nat → Int32} {men : Int32} {look : Bool} {c : St} (h1 : k1 1 = k2 1) (h2 : k1 2 = k2 2) (h3 : k1 3 = k2 3) (h4 : k1 4 = k2 4) : passS T k1 men look c = passS T k2 men look c := by
  unfold passS
  rw [h1, h2, h3, h4]
set_option maxRecDepth 100000 in
set_option maxHeartbeats 2000000 in
theorem tried_loop {d n0 z : Nat} {κ : Kd} {h0 : Hp} (hd : 8 ≤ d) {s : St} {T T2 : Tx} {c g th u F k pa tu rd tk : St} {kk : Nat → Int32} {n : Nat} {x y : Int32} (hw : wfT T) (hn : n ≤ 10000) (hk : ∀ e : St, passS T k.1 63 false e = passS T kk 63 false e) (hr : k.2.2.2 0 = s.2.2.2 3) : ∀ (j i : Nat) (e : St), i + j = n → e.1 0 = T.1.1 0 → GV (IB z h0) MX11_tried (d, 0, 0, n0, κ) (mkF s T T2 c g e u F k pa tu rd tk) 138 [some (.ref z), some (.int (x)), some (.int (y)), some (.int (nI n)), some (.int (nI i))] [] (fun v S' => v = some (.int (sumI (cLeft (hoursS T kk 63 false j e)) (nat (T.1.1 0)))) ∧ ∃ th' : St, S' = mkF s T T2 c g th' u F k pa tu rd tk) := by
  intro j
  induction j with
  | zero =>
    intro i e hij he
    have hin : i = n := by omega
    subst hin
    refine GV.iload dX11_tried_138 rfl ?_
    refine GV.iload_n dX11_tried_140 rfl ?_
    refine GV.icmp_ge 164 dX11_tried_141 (by decide) (fun _ => ?_) (fun z => absurd (nI_le (Nat.le_refl _) (by omega)) z)
    refine GV.aload_n dX11_tried_164 rfl ?_
    refine GV.getf okX11 8 (fun h H => H.aown.1) fl_X11_42 dX11_tried_165 (by decide) rfl ?_
    refine GV.cV0 (ci := 0) yoX0_leftOfAll ml_X11_218 im_X0_leftOfAll se_X0_leftOfAll dX11_tried_168 rfl (fun h H => H.ath.1) (Nat.le_of_ble_eq_true rfl) (by omega) rfl (Nat.le_of_ble_eq_true rfl) (GV.rd (fun h H => leftOfAll_V (n := nat (T.1.1 0)) (by omega) H.ath (by rw [he]; exact hw.1.1) (by have := hw.1.2; omega))) (GV.rdK ?_)
    refine GV.iret dX11_tried_171 rfl ?_
    exact ⟨rfl, _, rfl⟩
  | succ j ih =>
    intro i e hij he
    refine GV.iload dX11_tried_138 rfl ?_
    refine GV.iload_n dX11_tried_140 rfl ?_
    refine GV.icmp_ge 164 dX11_tried_141 (by decide) (fun z => absurd z (nI_ge (by omega) (by omega))) (fun _ => ?_)
    refine GV.aload_n dX11_tried_144 rfl ?_
    refine GV.getf okX11 9 (fun h H => H.aown.1) fl_X11_48 dX11_tried_145 (by decide) rfl ?_
    refine GV.aload_n dX11_tried_148 rfl ?_
    refine GV.getf okX11 8 (fun h H => H.aown.1) fl_X11_42 dX11_tried_149 (by decide) rfl ?_
    refine GV.bipush (v := 63) dX11_tried_152 (by decide) ?_
    refine GV.iconst (v := 0) dX11_tried_154 (by decide) ?_
    refine GV.cV3 (ci := 1) yoX1_pass ml_X11_272 im_X1_pass se_X1_pass dX11_tried_155 rfl (fun h H => H.ak.1) (Nat.le_of_ble_eq_true rfl) (by omega) rfl (Nat.le_of_ble_eq_true rfl) (GV.up (fun h H => pass_V (men := 63) (look := false) (by omega) H.ak hr H.aT hw H.ath he (by omega) H.apth H.apk) (fun h v h' H q => ⟨q.1, H.wLt q.2.1 q.2.2.1 q.2.2.2⟩)) (GV.wrK ?_)
    rw [hk]
    refine GV.iinc (v := 1) dX11_tried_158 rfl (by decide) (by decide) rfl ?_
    refine GV.goto 138 dX11_tried_161 (by decide) ?_
    refine GV.weak [some (.ref z), some (.int (x)), some (.int (y)), some (.int (nI n)), some (.int (nI (i + 1)))] (by simp [leL, sto1, sto2, k2c, nI_1]) ?_
    exact ih (i + 1) _ (by omega) (by rw [passS_0]; exact he)
set_option maxRecDepth 100000 in
set_option maxHeartbeats 2000000 in
theorem tried0_F {d n0 z : Nat} {κ : Kd} {h0 : Hp} (hd : 10 ≤ d) {s : St} {T T2 : Tx} {c g th u F k pa tu rd tk : St} {n : Nat} {y : Int32} (hw : wfT T) (hp : c.1 0 = T.1.1 0) (hn : n ≤ 10000) : GV (IB z h0) MX11_tried (d, 0, 0, n0, κ) (mkF s T T2 c g th u F k pa tu rd tk) 44 [some (.ref z), some (.int (nI 0)), some (.int (y)), some (.int (nI n)), none] [] (fun v S' => v = some (.int (sumI (cLeft (hoursS T (kT (nI 0) y) 63 false n (cCopy th c))) (nat (T.1.1 0)))) ∧ ∃ th' k' : St, S' = mkF s T T2 c g th' u F k' pa tu rd tk) := by
  refine GV.aload_n dX11_tried_44 rfl ?_
  refine GV.getf okX11 9 (fun h H => H.aown.1) fl_X11_48 dX11_tried_45 (by decide) rfl ?_
  refine GV.aload_n dX11_tried_48 rfl ?_
  refine GV.getf okX11 3 (fun h H => H.aown.1) fl_X11_25 dX11_tried_49 (by decide) rfl ?_
  refine GV.iload_n dX11_tried_52 rfl ?_
  refine GV.if_ne 60 dX11_tried_53 (by decide) (fun z => absurd (rfl) z) (fun _ => ?_)
  refine GV.iconst (v := 2) dX11_tried_56 (by decide) ?_
  refine GV.goto 70 dX11_tried_57 (by decide) ?_
  refine GV.cV2 (ci := 1) yoX1_begin ml_X11_269 im_X1_begin se_X1_begin dX11_tried_70 rfl (fun h H => H.ak.1) (Nat.le_of_ble_eq_true rfl) (by omega) rfl (Nat.le_of_ble_eq_true rfl) (GV.up (fun h H => kBegin_V (w := 2) (by omega) H.ak) (fun h v h' H q => ⟨q.1, H.wk q.2.1 q.2.2⟩)) (GV.wrK ?_)
  refine GV.aload_n dX11_tried_73 rfl ?_
  refine GV.getf okX11 9 (fun h H => H.aown.1) fl_X11_48 dX11_tried_74 (by decide) rfl ?_
  refine GV.iload_n dX11_tried_77 rfl ?_
  refine GV.iconst (v := 2) dX11_tried_78 (by decide) ?_
  refine GV.icmp_ne 86 dX11_tried_79 (by decide) (fun _ => ?_) (fun z => absurd z (by decide))
  refine GV.iconst (v := (-1)) dX11_tried_86 (by decide) ?_
  refine GV.putf okX1 2 (fun h H => H.ak.1) fl_X11_289 dX11_tried_87 (by decide) rfl (rfl) (rfl) (Nat.le_of_ble_eq_true rfl) (fun h h' H e o => H.wk (isR.setI C1_ok H.ak 2 _ (fun _ _ => rfl) e o) (fun b hb => o b (by omega))) ?_
  refine GV.aload_n dX11_tried_90 rfl ?_
  refine GV.getf okX11 9 (fun h H => H.aown.1) fl_X11_48 dX11_tried_91 (by decide) rfl ?_
  refine GV.iload_n dX11_tried_94 rfl ?_
  refine GV.iconst (v := 3) dX11_tried_95 (by decide) ?_
  refine GV.icmp_ne 103 dX11_tried_96 (by decide) (fun _ => ?_) (fun z => absurd z (by decide))
  refine GV.iconst (v := 0) dX11_tried_103 (by decide) ?_
  refine GV.putf okX1 3 (fun h H => H.ak.1) fl_X11_292 dX11_tried_104 (by decide) rfl (rfl) (rfl) (Nat.le_of_ble_eq_true rfl) (fun h h' H e o => H.wk (isR.setI C1_ok H.ak 3 _ (fun _ _ => rfl) e o) (fun b hb => o b (by omega))) ?_
  refine GV.aload_n dX11_tried_107 rfl ?_
  refine GV.getf okX11 9 (fun h H => H.aown.1) fl_X11_48 dX11_tried_108 (by decide) rfl ?_
  refine GV.iload_n dX11_tried_111 rfl ?_
  refine GV.iconst (v := 4) dX11_tried_112 (by decide) ?_
  refine GV.icmp_ne 120 dX11_tried_113 (by decide) (fun _ => ?_) (fun z => absurd z (by decide))
  refine GV.iconst (v := 0) dX11_tried_120 (by decide) ?_
  refine GV.putf okX1 4 (fun h H => H.ak.1) fl_X11_295 dX11_tried_121 (by decide) rfl (rfl) (rfl) (Nat.le_of_ble_eq_true rfl) (fun h h' H e o => H.wk (isR.setI C1_ok H.ak 4 _ (fun _ _ => rfl) e o) (fun b hb => o b (by omega))) ?_
  refine GV.aload_n dX11_tried_124 rfl ?_
  refine GV.getf okX11 8 (fun h H => H.aown.1) fl_X11_42 dX11_tried_125 (by decide) rfl ?_
  refine GV.aload_n dX11_tried_128 rfl ?_
  refine GV.getf okX11 5 (fun h H => H.aown.1) fl_X11_35 dX11_tried_129 (by decide) rfl ?_
  refine GV.cV1 (ci := 0) yoX0_copy ml_X11_280 im_X0_copy se_X0_copy dX11_tried_132 rfl (fun h H => H.ath.1) (Nat.le_of_ble_eq_true rfl) (by omega) rfl (Nat.le_of_ble_eq_true rfl) (GV.up (fun h H => copy_V (by omega) H.ath H.ac (by omega)) (fun h v h' H q => ⟨q.1, H.wth q.2.1 q.2.2⟩)) (GV.wrK ?_)
  refine GV.iconst (v := 0) dX11_tried_135 (by decide) ?_
  refine GV.istore dX11_tried_136 (by decide) rfl ?_
  refine GV.weak [some (.ref z), some (.int (nI 0)), some (.int (y)), some (.int (nI n)), some (.int (nI 0))] (by simp [leL, sto1, sto2, k2c]; try rfl) ?_
  refine GV.post ?_ (tried_loop (th := th) (kk := kT (nI 0) y) (by omega) hw hn (fun e => passS_c rfl rfl rfl rfl) rfl n 0 (cCopy th c) (by omega) (by rw [cCopy_0.1]; exact hp))
  rintro _ _ ⟨rfl, th1, rfl⟩
  exact ⟨rfl, _, _, rfl⟩
set_option maxRecDepth 100000 in
set_option maxHeartbeats 2000000 in
theorem tried1_F {d n0 z : Nat} {κ : Kd} {h0 : Hp} (hd : 10 ≤ d) {s : St} {T T2 : Tx} {c g th u F k pa tu rd tk : St} {n : Nat} {y : Int32} (hw : wfT T) (hp : c.1 0 = T.1.1 0) (hn : n ≤ 10000) : GV (IB z h0) MX11_tried (d, 0, 0, n0, κ) (mkF s T T2 c g th u F k pa tu rd tk) 44 [some (.ref z), some (.int (nI 1)), some (.int (y)), some (.int (nI n)), none] [] (fun v S' => v = some (.int (sumI (cLeft (hoursS T (kT (nI 1) y) 63 false n (cCopy th c))) (nat (T.1.1 0)))) ∧ ∃ th' k' : St, S' = mkF s T T2 c g th' u F k' pa tu rd tk) := by
  refine GV.aload_n dX11_tried_44 rfl ?_
  refine GV.getf okX11 9 (fun h H => H.aown.1) fl_X11_48 dX11_tried_45 (by decide) rfl ?_
  refine GV.aload_n dX11_tried_48 rfl ?_
  refine GV.getf okX11 3 (fun h H => H.aown.1) fl_X11_25 dX11_tried_49 (by decide) rfl ?_
  refine GV.iload_n dX11_tried_52 rfl ?_
  refine GV.if_ne 60 dX11_tried_53 (by decide) (fun _ => ?_) (fun z => absurd z (by decide))
  refine GV.iload_n dX11_tried_60 rfl ?_
  refine GV.iconst (v := 1) dX11_tried_61 (by decide) ?_
  refine GV.icmp_ne 69 dX11_tried_62 (by decide) (fun z => absurd (rfl) z) (fun _ => ?_)
  refine GV.iconst (v := 3) dX11_tried_65 (by decide) ?_
  refine GV.goto 70 dX11_tried_66 (by decide) ?_
  refine GV.cV2 (ci := 1) yoX1_begin ml_X11_269 im_X1_begin se_X1_begin dX11_tried_70 rfl (fun h H => H.ak.1) (Nat.le_of_ble_eq_true rfl) (by omega) rfl (Nat.le_of_ble_eq_true rfl) (GV.up (fun h H => kBegin_V (w := 3) (by omega) H.ak) (fun h v h' H q => ⟨q.1, H.wk q.2.1 q.2.2⟩)) (GV.wrK ?_)
  refine GV.aload_n dX11_tried_73 rfl ?_
  refine GV.getf okX11 9 (fun h H => H.aown.1) fl_X11_48 dX11_tried_74 (by decide) rfl ?_
  refine GV.iload_n dX11_tried_77 rfl ?_
  refine GV.iconst (v := 2) dX11_tried_78 (by decide) ?_
  refine GV.icmp_ne 86 dX11_tried_79 (by decide) (fun _ => ?_) (fun z => absurd z (by decide))
  refine GV.iconst (v := (-1)) dX11_tried_86 (by decide) ?_
  refine GV.putf okX1 2 (fun h H => H.ak.1) fl_X11_289 dX11_tried_87 (by decide) rfl (rfl) (rfl) (Nat.le_of_ble_eq_true rfl) (fun h h' H e o => H.wk (isR.setI C1_ok H.ak 2 _ (fun _ _ => rfl) e o) (fun b hb => o b (by omega))) ?_
  refine GV.aload_n dX11_tried_90 rfl ?_
  refine GV.getf okX11 9 (fun h H => H.aown.1) fl_X11_48 dX11_tried_91 (by decide) rfl ?_
  refine GV.iload_n dX11_tried_94 rfl ?_
  refine GV.iconst (v := 3) dX11_tried_95 (by decide) ?_
  refine GV.icmp_ne 103 dX11_tried_96 (by decide) (fun _ => ?_) (fun z => absurd z (by decide))
  refine GV.iconst (v := 0) dX11_tried_103 (by decide) ?_
  refine GV.putf okX1 3 (fun h H => H.ak.1) fl_X11_292 dX11_tried_104 (by decide) rfl (rfl) (rfl) (Nat.le_of_ble_eq_true rfl) (fun h h' H e o => H.wk (isR.setI C1_ok H.ak 3 _ (fun _ _ => rfl) e o) (fun b hb => o b (by omega))) ?_
  refine GV.aload_n dX11_tried_107 rfl ?_
  refine GV.getf okX11 9 (fun h H => H.aown.1) fl_X11_48 dX11_tried_108 (by decide) rfl ?_
  refine GV.iload_n dX11_tried_111 rfl ?_
  refine GV.iconst (v := 4) dX11_tried_112 (by decide) ?_
  refine GV.icmp_ne 120 dX11_tried_113 (by decide) (fun _ => ?_) (fun z => absurd z (by decide))
  refine GV.iconst (v := 0) dX11_tried_120 (by decide) ?_
  refine GV.putf okX1 4 (fun h H => H.ak.1) fl_X11_295 dX11_tried_121 (by decide) rfl (rfl) (rfl) (Nat.le_of_ble_eq_true rfl) (fun h h' H e o => H.wk (isR.setI C1_ok H.ak 4 _ (fun _ _ => rfl) e o) (fun b hb => o b (by omega))) ?_
  refine GV.aload_n dX11_tried_124 rfl ?_
  refine GV.getf okX11 8 (fun h H => H.aown.1) fl_X11_42 dX11_tried_125 (by decide) rfl ?_
  refine GV.aload_n dX11_tried_128 rfl ?_
  refine GV.getf okX11 5 (fun h H => H.aown.1) fl_X11_35 dX11_tried_129 (by decide) rfl ?_
  refine GV.cV1 (ci := 0) yoX0_copy ml_X11_280 im_X0_copy se_X0_copy dX11_tried_132 rfl (fun h H => H.ath.1) (Nat.le_of_ble_eq_true rfl) (by omega) rfl (Nat.le_of_ble_eq_true rfl) (GV.up (fun h H => copy_V (by omega) H.ath H.ac (by omega)) (fun h v h' H q => ⟨q.1, H.wth q.2.1 q.2.2⟩)) (GV.wrK ?_)
  refine GV.iconst (v := 0) dX11_tried_135 (by decide) ?_
  refine GV.istore dX11_tried_136 (by decide) rfl ?_
  refine GV.weak [some (.ref z), some (.int (nI 1)), some (.int (y)), some (.int (nI n)), some (.int (nI 0))] (by simp [leL, sto1, sto2, k2c]; try rfl) ?_
  refine GV.post ?_ (tried_loop (th := th) (kk := kT (nI 1) y) (by omega) hw hn (fun e => passS_c rfl rfl rfl rfl) rfl n 0 (cCopy th c) (by omega) (by rw [cCopy_0.1]; exact hp))
  rintro _ _ ⟨rfl, th1, rfl⟩
  exact ⟨rfl, _, _, rfl⟩
set_option maxRecDepth 100000 in
set_option maxHeartbeats 2000000 in
theorem tried2_F {d n0 z : Nat} {κ : Kd} {h0 : Hp} (hd : 10 ≤ d) {s : St} {T T2 : Tx} {c g th u F k pa tu rd tk : St} {n : Nat} {y : Int32} (hw : wfT T) (hp : c.1 0 = T.1.1 0) (hn : n ≤ 10000) : GV (IB z h0) MX11_tried (d, 0, 0, n0, κ) (mkF s T T2 c g th u F k pa tu rd tk) 44 [some (.ref z), some (.int (nI 2)), some (.int (y)), some (.int (nI n)), none] [] (fun v S' => v = some (.int (sumI (cLeft (hoursS T (kT (nI 2) y) 63 false n (cCopy th c))) (nat (T.1.1 0)))) ∧ ∃ th' k' : St, S' = mkF s T T2 c g th' u F k' pa tu rd tk) := by
  refine GV.aload_n dX11_tried_44 rfl ?_
  refine GV.getf okX11 9 (fun h H => H.aown.1) fl_X11_48 dX11_tried_45 (by decide) rfl ?_
  refine GV.aload_n dX11_tried_48 rfl ?_
  refine GV.getf okX11 3 (fun h H => H.aown.1) fl_X11_25 dX11_tried_49 (by decide) rfl ?_
  refine GV.iload_n dX11_tried_52 rfl ?_
  refine GV.if_ne 60 dX11_tried_53 (by decide) (fun _ => ?_) (fun z => absurd z (by decide))
  refine GV.iload_n dX11_tried_60 rfl ?_
  refine GV.iconst (v := 1) dX11_tried_61 (by decide) ?_
  refine GV.icmp_ne 69 dX11_tried_62 (by decide) (fun _ => ?_) (fun z => absurd z (by decide))
  refine GV.iconst (v := 0) dX11_tried_69 (by decide) ?_
  refine GV.cV2 (ci := 1) yoX1_begin ml_X11_269 im_X1_begin se_X1_begin dX11_tried_70 rfl (fun h H => H.ak.1) (Nat.le_of_ble_eq_true rfl) (by omega) rfl (Nat.le_of_ble_eq_true rfl) (GV.up (fun h H => kBegin_V (w := 0) (by omega) H.ak) (fun h v h' H q => ⟨q.1, H.wk q.2.1 q.2.2⟩)) (GV.wrK ?_)
  refine GV.aload_n dX11_tried_73 rfl ?_
  refine GV.getf okX11 9 (fun h H => H.aown.1) fl_X11_48 dX11_tried_74 (by decide) rfl ?_
  refine GV.iload_n dX11_tried_77 rfl ?_
  refine GV.iconst (v := 2) dX11_tried_78 (by decide) ?_
  refine GV.icmp_ne 86 dX11_tried_79 (by decide) (fun z => absurd (rfl) z) (fun _ => ?_)
  refine GV.iload_n dX11_tried_82 rfl ?_
  refine GV.goto 87 dX11_tried_83 (by decide) ?_
  refine GV.putf okX1 2 (fun h H => H.ak.1) fl_X11_289 dX11_tried_87 (by decide) rfl (rfl) (rfl) (Nat.le_of_ble_eq_true rfl) (fun h h' H e o => H.wk (isR.setI C1_ok H.ak 2 _ (fun _ _ => rfl) e o) (fun b hb => o b (by omega))) ?_
  refine GV.aload_n dX11_tried_90 rfl ?_
  refine GV.getf okX11 9 (fun h H => H.aown.1) fl_X11_48 dX11_tried_91 (by decide) rfl ?_
  refine GV.iload_n dX11_tried_94 rfl ?_
  refine GV.iconst (v := 3) dX11_tried_95 (by decide) ?_
  refine GV.icmp_ne 103 dX11_tried_96 (by decide) (fun _ => ?_) (fun z => absurd z (by decide))
  refine GV.iconst (v := 0) dX11_tried_103 (by decide) ?_
  refine GV.putf okX1 3 (fun h H => H.ak.1) fl_X11_292 dX11_tried_104 (by decide) rfl (rfl) (rfl) (Nat.le_of_ble_eq_true rfl) (fun h h' H e o => H.wk (isR.setI C1_ok H.ak 3 _ (fun _ _ => rfl) e o) (fun b hb => o b (by omega))) ?_
  refine GV.aload_n dX11_tried_107 rfl ?_
  refine GV.getf okX11 9 (fun h H => H.aown.1) fl_X11_48 dX11_tried_108 (by decide) rfl ?_
  refine GV.iload_n dX11_tried_111 rfl ?_
  refine GV.iconst (v := 4) dX11_tried_112 (by decide) ?_
  refine GV.icmp_ne 120 dX11_tried_113 (by decide) (fun _ => ?_) (fun z => absurd z (by decide))
  refine GV.iconst (v := 0) dX11_tried_120 (by decide) ?_
  refine GV.putf okX1 4 (fun h H => H.ak.1) fl_X11_295 dX11_tried_121 (by decide) rfl (rfl) (rfl) (Nat.le_of_ble_eq_true rfl) (fun h h' H e o => H.wk (isR.setI C1_ok H.ak 4 _ (fun _ _ => rfl) e o) (fun b hb => o b (by omega))) ?_
  refine GV.aload_n dX11_tried_124 rfl ?_
  refine GV.getf okX11 8 (fun h H => H.aown.1) fl_X11_42 dX11_tried_125 (by decide) rfl ?_
  refine GV.aload_n dX11_tried_128 rfl ?_
  refine GV.getf okX11 5 (fun h H => H.aown.1) fl_X11_35 dX11_tried_129 (by decide) rfl ?_
  refine GV.cV1 (ci := 0) yoX0_copy ml_X11_280 im_X0_copy se_X0_copy dX11_tried_132 rfl (fun h H => H.ath.1) (Nat.le_of_ble_eq_true rfl) (by omega) rfl (Nat.le_of_ble_eq_true rfl) (GV.up (fun h H => copy_V (by omega) H.ath H.ac (by omega)) (fun h v h' H q => ⟨q.1, H.wth q.2.1 q.2.2⟩)) (GV.wrK ?_)
  refine GV.iconst (v := 0) dX11_tried_135 (by decide) ?_
  refine GV.istore dX11_tried_136 (by decide) rfl ?_
  refine GV.weak [some (.ref z), some (.int (nI 2)), some (.int (y)), some (.int (nI n)), some (.int (nI 0))] (by simp [leL, sto1, sto2, k2c]; try rfl) ?_
  refine GV.post ?_ (tried_loop (th := th) (kk := kT (nI 2) y) (by omega) hw hn (fun e => passS_c rfl rfl rfl rfl) rfl n 0 (cCopy th c) (by omega) (by rw [cCopy_0.1]; exact hp))
  rintro _ _ ⟨rfl, th1, rfl⟩
  exact ⟨rfl, _, _, rfl⟩
set_option maxRecDepth 100000 in
set_option maxHeartbeats 2000000 in
theorem tried3_F {d n0 z : Nat} {κ : Kd} {h0 : Hp} (hd : 10 ≤ d) {s : St} {T T2 : Tx} {c g th u F k pa tu rd tk : St} {n : Nat} {y : Int32} (hw : wfT T) (hp : c.1 0 = T.1.1 0) (hn : n ≤ 10000) : GV (IB z h0) MX11_tried (d, 0, 0, n0, κ) (mkF s T T2 c g th u F k pa tu rd tk) 44 [some (.ref z), some (.int (nI 3)), some (.int (y)), some (.int (nI n)), none] [] (fun v S' => v = some (.int (sumI (cLeft (hoursS T (kT (nI 3) y) 63 false n (cCopy th c))) (nat (T.1.1 0)))) ∧ ∃ th' k' : St, S' = mkF s T T2 c g th' u F k' pa tu rd tk) := by
  refine GV.aload_n dX11_tried_44 rfl ?_
  refine GV.getf okX11 9 (fun h H => H.aown.1) fl_X11_48 dX11_tried_45 (by decide) rfl ?_
  refine GV.aload_n dX11_tried_48 rfl ?_
  refine GV.getf okX11 3 (fun h H => H.aown.1) fl_X11_25 dX11_tried_49 (by decide) rfl ?_
  refine GV.iload_n dX11_tried_52 rfl ?_
  refine GV.if_ne 60 dX11_tried_53 (by decide) (fun _ => ?_) (fun z => absurd z (by decide))
  refine GV.iload_n dX11_tried_60 rfl ?_
  refine GV.iconst (v := 1) dX11_tried_61 (by decide) ?_
  refine GV.icmp_ne 69 dX11_tried_62 (by decide) (fun _ => ?_) (fun z => absurd z (by decide))
  refine GV.iconst (v := 0) dX11_tried_69 (by decide) ?_
  refine GV.cV2 (ci := 1) yoX1_begin ml_X11_269 im_X1_begin se_X1_begin dX11_tried_70 rfl (fun h H => H.ak.1) (Nat.le_of_ble_eq_true rfl) (by omega) rfl (Nat.le_of_ble_eq_true rfl) (GV.up (fun h H => kBegin_V (w := 0) (by omega) H.ak) (fun h v h' H q => ⟨q.1, H.wk q.2.1 q.2.2⟩)) (GV.wrK ?_)
  refine GV.aload_n dX11_tried_73 rfl ?_
  refine GV.getf okX11 9 (fun h H => H.aown.1) fl_X11_48 dX11_tried_74 (by decide) rfl ?_
  refine GV.iload_n dX11_tried_77 rfl ?_
  refine GV.iconst (v := 2) dX11_tried_78 (by decide) ?_
  refine GV.icmp_ne 86 dX11_tried_79 (by decide) (fun _ => ?_) (fun z => absurd z (by decide))
  refine GV.iconst (v := (-1)) dX11_tried_86 (by decide) ?_
  refine GV.putf okX1 2 (fun h H => H.ak.1) fl_X11_289 dX11_tried_87 (by decide) rfl (rfl) (rfl) (Nat.le_of_ble_eq_true rfl) (fun h h' H e o => H.wk (isR.setI C1_ok H.ak 2 _ (fun _ _ => rfl) e o) (fun b hb => o b (by omega))) ?_
  refine GV.aload_n dX11_tried_90 rfl ?_
  refine GV.getf okX11 9 (fun h H => H.aown.1) fl_X11_48 dX11_tried_91 (by decide) rfl ?_
  refine GV.iload_n dX11_tried_94 rfl ?_
  refine GV.iconst (v := 3) dX11_tried_95 (by decide) ?_
  refine GV.icmp_ne 103 dX11_tried_96 (by decide) (fun z => absurd (rfl) z) (fun _ => ?_)
  refine GV.iconst (v := 1) dX11_tried_99 (by decide) ?_
  refine GV.goto 104 dX11_tried_100 (by decide) ?_
  refine GV.putf okX1 3 (fun h H => H.ak.1) fl_X11_292 dX11_tried_104 (by decide) rfl (rfl) (rfl) (Nat.le_of_ble_eq_true rfl) (fun h h' H e o => H.wk (isR.setI C1_ok H.ak 3 _ (fun _ _ => rfl) e o) (fun b hb => o b (by omega))) ?_
  refine GV.aload_n dX11_tried_107 rfl ?_
  refine GV.getf okX11 9 (fun h H => H.aown.1) fl_X11_48 dX11_tried_108 (by decide) rfl ?_
  refine GV.iload_n dX11_tried_111 rfl ?_
  refine GV.iconst (v := 4) dX11_tried_112 (by decide) ?_
  refine GV.icmp_ne 120 dX11_tried_113 (by decide) (fun _ => ?_) (fun z => absurd z (by decide))
  refine GV.iconst (v := 0) dX11_tried_120 (by decide) ?_
  refine GV.putf okX1 4 (fun h H => H.ak.1) fl_X11_295 dX11_tried_121 (by decide) rfl (rfl) (rfl) (Nat.le_of_ble_eq_true rfl) (fun h h' H e o => H.wk (isR.setI C1_ok H.ak 4 _ (fun _ _ => rfl) e o) (fun b hb => o b (by omega))) ?_
  refine GV.aload_n dX11_tried_124 rfl ?_
  refine GV.getf okX11 8 (fun h H => H.aown.1) fl_X11_42 dX11_tried_125 (by decide) rfl ?_
  refine GV.aload_n dX11_tried_128 rfl ?_
  refine GV.getf okX11 5 (fun h H => H.aown.1) fl_X11_35 dX11_tried_129 (by decide) rfl ?_
  refine GV.cV1 (ci := 0) yoX0_copy ml_X11_280 im_X0_copy se_X0_copy dX11_tried_132 rfl (fun h H => H.ath.1) (Nat.le_of_ble_eq_true rfl) (by omega) rfl (Nat.le_of_ble_eq_true rfl) (GV.up (fun h H => copy_V (by omega) H.ath H.ac (by omega)) (fun h v h' H q => ⟨q.1, H.wth q.2.1 q.2.2⟩)) (GV.wrK ?_)
  refine GV.iconst (v := 0) dX11_tried_135 (by decide) ?_
  refine GV.istore dX11_tried_136 (by decide) rfl ?_
  refine GV.weak [some (.ref z), some (.int (nI 3)), some (.int (y)), some (.int (nI n)), some (.int (nI 0))] (by simp [leL, sto1, sto2, k2c]; try rfl) ?_
  refine GV.post ?_ (tried_loop (th := th) (kk := kT (nI 3) y) (by omega) hw hn (fun e => passS_c rfl rfl rfl rfl) rfl n 0 (cCopy th c) (by omega) (by rw [cCopy_0.1]; exact hp))
  rintro _ _ ⟨rfl, th1, rfl⟩
  exact ⟨rfl, _, _, rfl⟩
set_option maxRecDepth 100000 in
set_option maxHeartbeats 2000000 in
theorem tried4_F {d n0 z : Nat} {κ : Kd} {h0 : Hp} (hd : 10 ≤ d) {s : St} {T T2 : Tx} {c g th u F k pa tu rd tk : St} {n : Nat} {y : Int32} (hw : wfT T) (hp : c.1 0 = T.1.1 0) (hn : n ≤ 10000) : GV (IB z h0) MX11_tried (d, 0, 0, n0, κ) (mkF s T T2 c g th u F k pa tu rd tk) 44 [some (.ref z), some (.int (nI 4)), some (.int (y)), some (.int (nI n)), none] [] (fun v S' => v = some (.int (sumI (cLeft (hoursS T (kT (nI 4) y) 63 false n (cCopy th c))) (nat (T.1.1 0)))) ∧ ∃ th' k' : St, S' = mkF s T T2 c g th' u F k' pa tu rd tk) := by
  refine GV.aload_n dX11_tried_44 rfl ?_
  refine GV.getf okX11 9 (fun h H => H.aown.1) fl_X11_48 dX11_tried_45 (by decide) rfl ?_
  refine GV.aload_n dX11_tried_48 rfl ?_
  refine GV.getf okX11 3 (fun h H => H.aown.1) fl_X11_25 dX11_tried_49 (by decide) rfl ?_
  refine GV.iload_n dX11_tried_52 rfl ?_
  refine GV.if_ne 60 dX11_tried_53 (by decide) (fun _ => ?_) (fun z => absurd z (by decide))
  refine GV.iload_n dX11_tried_60 rfl ?_
  refine GV.iconst (v := 1) dX11_tried_61 (by decide) ?_
  refine GV.icmp_ne 69 dX11_tried_62 (by decide) (fun _ => ?_) (fun z => absurd z (by decide))
  refine GV.iconst (v := 0) dX11_tried_69 (by decide) ?_
  refine GV.cV2 (ci := 1) yoX1_begin ml_X11_269 im_X1_begin se_X1_begin dX11_tried_70 rfl (fun h H => H.ak.1) (Nat.le_of_ble_eq_true rfl) (by omega) rfl (Nat.le_of_ble_eq_true rfl) (GV.up (fun h H => kBegin_V (w := 0) (by omega) H.ak) (fun h v h' H q => ⟨q.1, H.wk q.2.1 q.2.2⟩)) (GV.wrK ?_)
  refine GV.aload_n dX11_tried_73 rfl ?_
  refine GV.getf okX11 9 (fun h H => H.aown.1) fl_X11_48 dX11_tried_74 (by decide) rfl ?_
  refine GV.iload_n dX11_tried_77 rfl ?_
  refine GV.iconst (v := 2) dX11_tried_78 (by decide) ?_
  refine GV.icmp_ne 86 dX11_tried_79 (by decide) (fun _ => ?_) (fun z => absurd z (by decide))
  refine GV.iconst (v := (-1)) dX11_tried_86 (by decide) ?_
  refine GV.putf okX1 2 (fun h H => H.ak.1) fl_X11_289 dX11_tried_87 (by decide) rfl (rfl) (rfl) (Nat.le_of_ble_eq_true rfl) (fun h h' H e o => H.wk (isR.setI C1_ok H.ak 2 _ (fun _ _ => rfl) e o) (fun b hb => o b (by omega))) ?_
  refine GV.aload_n dX11_tried_90 rfl ?_
  refine GV.getf okX11 9 (fun h H => H.aown.1) fl_X11_48 dX11_tried_91 (by decide) rfl ?_
  refine GV.iload_n dX11_tried_94 rfl ?_
  refine GV.iconst (v := 3) dX11_tried_95 (by decide) ?_
  refine GV.icmp_ne 103 dX11_tried_96 (by decide) (fun _ => ?_) (fun z => absurd z (by decide))
  refine GV.iconst (v := 0) dX11_tried_103 (by decide) ?_
  refine GV.putf okX1 3 (fun h H => H.ak.1) fl_X11_292 dX11_tried_104 (by decide) rfl (rfl) (rfl) (Nat.le_of_ble_eq_true rfl) (fun h h' H e o => H.wk (isR.setI C1_ok H.ak 3 _ (fun _ _ => rfl) e o) (fun b hb => o b (by omega))) ?_
  refine GV.aload_n dX11_tried_107 rfl ?_
  refine GV.getf okX11 9 (fun h H => H.aown.1) fl_X11_48 dX11_tried_108 (by decide) rfl ?_
  refine GV.iload_n dX11_tried_111 rfl ?_
  refine GV.iconst (v := 4) dX11_tried_112 (by decide) ?_
  refine GV.icmp_ne 120 dX11_tried_113 (by decide) (fun z => absurd (rfl) z) (fun _ => ?_)
  refine GV.iconst (v := 1) dX11_tried_116 (by decide) ?_
  refine GV.goto 121 dX11_tried_117 (by decide) ?_
  refine GV.putf okX1 4 (fun h H => H.ak.1) fl_X11_295 dX11_tried_121 (by decide) rfl (rfl) (rfl) (Nat.le_of_ble_eq_true rfl) (fun h h' H e o => H.wk (isR.setI C1_ok H.ak 4 _ (fun _ _ => rfl) e o) (fun b hb => o b (by omega))) ?_
  refine GV.aload_n dX11_tried_124 rfl ?_
  refine GV.getf okX11 8 (fun h H => H.aown.1) fl_X11_42 dX11_tried_125 (by decide) rfl ?_
  refine GV.aload_n dX11_tried_128 rfl ?_
  refine GV.getf okX11 5 (fun h H => H.aown.1) fl_X11_35 dX11_tried_129 (by decide) rfl ?_
  refine GV.cV1 (ci := 0) yoX0_copy ml_X11_280 im_X0_copy se_X0_copy dX11_tried_132 rfl (fun h H => H.ath.1) (Nat.le_of_ble_eq_true rfl) (by omega) rfl (Nat.le_of_ble_eq_true rfl) (GV.up (fun h H => copy_V (by omega) H.ath H.ac (by omega)) (fun h v h' H q => ⟨q.1, H.wth q.2.1 q.2.2⟩)) (GV.wrK ?_)
  refine GV.iconst (v := 0) dX11_tried_135 (by decide) ?_
  refine GV.istore dX11_tried_136 (by decide) rfl ?_
  refine GV.weak [some (.ref z), some (.int (nI 4)), some (.int (y)), some (.int (nI n)), some (.int (nI 0))] (by simp [leL, sto1, sto2, k2c]; try rfl) ?_
  refine GV.post ?_ (tried_loop (th := th) (kk := kT (nI 4) y) (by omega) hw hn (fun e => passS_c rfl rfl rfl rfl) rfl n 0 (cCopy th c) (by omega) (by rw [cCopy_0.1]; exact hp))
  rintro _ _ ⟨rfl, th1, rfl⟩
  exact ⟨rfl, _, _, rfl⟩
theorem triedT_F {d n0 z : Nat} {κ : Kd} {h0 : Hp} (hd : 10 ≤ d) {s : St} {T T2 : Tx} {c g th u F k pa tu rd tk : St} {n : Nat} {x y : Int32} (hw : wfT T) (hp : c.1 0 = T.1.1 0) (hn : n ≤ 10000) (h1 : ¬ x < 0) (h2 : ¬ 4 < x) : GV (IB z h0) MX11_tried (d, 0, 0, n0, κ) (mkF s T T2 c g th u F k pa tu rd tk) 44 [some (.ref z), some (.int x), some (.int y), some (.int (nI n)), none] [] (fun v S' => v = some (.int (sumI (cLeft (hoursS T (kT x y) 63 false n (cCopy th c))) (nat (T.1.1 0)))) ∧ ∃ th' k' : St, S' = mkF s T T2 c g th' u F k' pa tu rd tk) := by
  obtain ⟨w, rfl, hw2, hww⟩ := nat_nn h1
  have h5 : w ≤ 4 := nI_le_of hw2 (by omega) h2
  rcases (show w = 0 ∨ w = 1 ∨ w = 2 ∨ w = 3 ∨ w = 4 by omega) with rfl | rfl | rfl | rfl | rfl
  · exact tried0_F hd hw hp hn
  · exact tried1_F hd hw hp hn
  · exact tried2_F hd hw hp hn
  · exact tried3_F hd hw hp hn
  · exact tried4_F hd hw hp hn
set_option maxRecDepth 100000 in
set_option maxHeartbeats 2000000 in
theorem tried_F {d n0 z : Nat} {κ : Kd} {h0 : Hp} (hd : 11 ≤ d) {s : St} {T T2 : Tx} {c g th u F k pa tu rd tk : St} {x y w : Int32} (hw : wfT T) (hp : c.1 0 = T.1.1 0) : GV (IB z h0) MX11_tried (d, 0, 0, n0, κ) (mkF s T T2 c g th u F k pa tu rd tk) 0 [some (.ref z), some (.int (x)), some (.int (y)), some (.int (w)), none] [] (fun v S' => v = some (.int (aTried T c x y w)) ∧ ∃ th' k' : St, S' = mkF s T T2 c g th' u F k' pa tu rd tk) := by
  refine GV.iload_n dX11_tried_0 rfl ?_
  refine GV.if_lt 20 dX11_tried_1 (by decide) (fun c1 => ?_) (fun c1 => ?_)
  · skip
    have hA : aTried T c x y w = -1 := if_neg (fun z => z.1 c1)
    refine GV.iconst (v := (-1)) dX11_tried_20 (by decide) ?_
    refine GV.iret dX11_tried_21 rfl ?_
    rw [hA]
    exact ⟨rfl, th, k, rfl⟩
  · skip
    refine GV.iload_n dX11_tried_4 rfl ?_
    refine GV.iconst (v := 4) dX11_tried_5 (by decide) ?_
    refine GV.icmp_gt 20 dX11_tried_6 (by decide) (fun c6 => ?_) (fun c6 => ?_)
    · skip
      have hA : aTried T c x y w = -1 := if_neg (fun z => z.2.1 c6)
      refine GV.iconst (v := (-1)) dX11_tried_20 (by decide) ?_
      refine GV.iret dX11_tried_21 rfl ?_
      rw [hA]
      exact ⟨rfl, th, k, rfl⟩
    · skip
      refine GV.iload_n dX11_tried_9 rfl ?_
      refine GV.if_lt 20 dX11_tried_10 (by decide) (fun c10 => ?_) (fun c10 => ?_)
      · skip
        have hA : aTried T c x y w = -1 := if_neg (fun z => z.2.2.1 c10)
        refine GV.iconst (v := (-1)) dX11_tried_20 (by decide) ?_
        refine GV.iret dX11_tried_21 rfl ?_
        rw [hA]
        exact ⟨rfl, th, k, rfl⟩
      · skip
        obtain ⟨n, rfl, hn2, hnn⟩ := nat_nn c10
        refine GV.iload_n dX11_tried_13 rfl ?_
        refine GV.sipush (v := 200) dX11_tried_14 (by decide) ?_
        refine GV.icmp_le 22 dX11_tried_17 (by decide) (fun c17 => ?_) (fun c17 => ?_)
        · skip
          have c17 : ¬ 200 < nI n := Int32.not_lt.mpr c17
          have hx3 : n ≤ 200 := nI_le_of hn2 (by omega) c17
          refine GV.iload_n dX11_tried_22 rfl ?_
          refine GV.iconst (v := 2) dX11_tried_23 (by decide) ?_
          refine GV.icmp_ne 38 dX11_tried_24 (by decide) (fun c24 => ?_) (fun c24 => ?_)
          · skip
            refine GV.iload_n dX11_tried_38 rfl ?_
            refine GV.if_eq 44 dX11_tried_39 (by decide) (fun c39 => ?_) (fun c39 => ?_)
            · skip
              have hi : (if x = 2 then isManB (T.1.1 0) y = true else y = 0) := by rw [if_neg c24]; exact c39
              refine GV.post ?_ (triedT_F (by omega) hw hp (by omega) c1 c6)
              rintro _ _ ⟨rfl, th1, k1, rfl⟩
              refine ⟨?_, _, _, rfl⟩
              unfold aTried
              rw [if_pos ⟨c1, c6, c10, c17, hi⟩, hnn]
              rw [sumI_congr _ (fun q hq => (eqP.hours hw (by have := hw.1.2; omega) (lit63 q (by have := hw.1.2; omega)) (lit63 q (by have := hw.1.2; omega)) n _ _ cCopy_eq).left)]
            · skip
              have hA : aTried T c x y (nI n) = -1 := if_neg (fun z => by have := z.2.2.2.2; rw [if_neg c24] at this; exact c39 this)
              refine GV.iconst (v := (-1)) dX11_tried_42 (by decide) ?_
              refine GV.iret dX11_tried_43 rfl ?_
              rw [hA]
              exact ⟨rfl, th, k, rfl⟩
          · skip
            refine GV.aload_n dX11_tried_27 rfl ?_
            refine GV.iload_n dX11_tried_28 rfl ?_
            refine GV.cV1 (ci := 11) yoX11_isPerson ml_X11_120 im_X11_isPerson se_X11_isPerson dX11_tried_29 rfl (fun h H => H.aown.1) (Nat.le_of_ble_eq_true rfl) (by omega) rfl (Nat.le_of_ble_eq_true rfl) (isPerson_F (by omega)) (GV.rdK ?_)
            refine GV.if_ne 44 dX11_tried_32 (by decide) (fun c32 => ?_) (fun c32 => ?_)
            · skip
              have hi : (if x = 2 then isManB (T.1.1 0) y = true else y = 0) := by rw [if_pos c24]; exact bI_t c32
              refine GV.post ?_ (triedT_F (by omega) hw hp (by omega) c1 c6)
              rintro _ _ ⟨rfl, th1, k1, rfl⟩
              refine ⟨?_, _, _, rfl⟩
              unfold aTried
              rw [if_pos ⟨c1, c6, c10, c17, hi⟩, hnn]
              rw [sumI_congr _ (fun q hq => (eqP.hours hw (by have := hw.1.2; omega) (lit63 q (by have := hw.1.2; omega)) (lit63 q (by have := hw.1.2; omega)) n _ _ cCopy_eq).left)]
            · skip
              have hno := bI_f c32
              have hA : aTried T c x y (nI n) = -1 := if_neg (fun z => by have := z.2.2.2.2; rw [if_pos c24, hno] at this; cases this)
              refine GV.goto 42 dX11_tried_35 (by decide) ?_
              refine GV.iconst (v := (-1)) dX11_tried_42 (by decide) ?_
              refine GV.iret dX11_tried_43 rfl ?_
              rw [hA]
              exact ⟨rfl, th, k, rfl⟩
        · skip
          have hA : aTried T c x y (nI n) = -1 := if_neg (fun z => z.2.2.2.1 (Int32.not_le.mp c17))
          refine GV.iconst (v := (-1)) dX11_tried_20 (by decide) ?_
          refine GV.iret dX11_tried_21 rfl ?_
          rw [hA]
          exact ⟨rfl, th, k, rfl⟩
set_option maxRecDepth 100000 in
set_option maxHeartbeats 2000000 in
theorem chance_in {d n0 z : Nat} {κ : Kd} {h0 : Hp} (hd : 8 ≤ d) {s : St} {T T2 : Tx} {c g th u F k pa tu rd tk : St} {n p r : Nat} {y l x t : Int32} {P : Option Value → FS → Prop} (hw : wfT T) (hn : n ≤ 10000) (hp6 : p < 6) : ∀ (j i : Nat) (e : St), i + j = n → e.1 0 = T.1.1 0 → (GV (IB z h0) MX11_chance (d, 0, 0, n0, κ) (mkF s T T2 c g (hoursS T (kW 1) ((1 : Int32) <<< (nI p &&& 31)) false j e) u F (kInit k (s.2.2.2 3) 1) pa tu rd tk) 115 [some (.ref z), some (.int (y)), some (.int (nI n)), some (.int (nI p)), some (.int (l)), some (.int (x)), some (.int (t)), some (.int (nI r)), some (.int (nI n))] [] P) → GV (IB z h0) MX11_chance (d, 0, 0, n0, κ) (mkF s T T2 c g e u F (kInit k (s.2.2.2 3) 1) pa tu rd tk) 88 [some (.ref z), some (.int (y)), some (.int (nI n)), some (.int (nI p)), some (.int (l)), some (.int (x)), some (.int (t)), some (.int (nI r)), some (.int (nI i))] [] (P) := by
  intro j
  induction j with
  | zero =>
    intro i e hij he hc
    have hin : i = n := by omega
    subst hin
    refine GV.iload dX11_chance_88 rfl ?_
    refine GV.iload_n dX11_chance_90 rfl ?_
    refine GV.icmp_ge 115 dX11_chance_91 (by decide) (fun _ => ?_) (fun z => absurd (nI_le (Nat.le_refl _) (by omega)) z)
    exact hc
  | succ j ih =>
    intro i e hij he hc
    refine GV.iload dX11_chance_88 rfl ?_
    refine GV.iload_n dX11_chance_90 rfl ?_
    refine GV.icmp_ge 115 dX11_chance_91 (by decide) (fun z => absurd z (nI_ge (by omega) (by omega))) (fun _ => ?_)
    refine GV.aload_n dX11_chance_94 rfl ?_
    refine GV.getf okX11 9 (fun h H => H.aown.1) fl_X11_48 dX11_chance_95 (by decide) rfl ?_
    refine GV.aload_n dX11_chance_98 rfl ?_
    refine GV.getf okX11 8 (fun h H => H.aown.1) fl_X11_42 dX11_chance_99 (by decide) rfl ?_
    refine GV.iconst (v := 1) dX11_chance_102 (by decide) ?_
    refine GV.iload_n dX11_chance_103 rfl ?_
    refine GV.ishl dX11_chance_104 ?_
    refine GV.iconst (v := 0) dX11_chance_105 (by decide) ?_
    refine GV.cV3 (ci := 1) yoX1_pass ml_X11_272 im_X1_pass se_X1_pass dX11_chance_106 rfl (fun h H => H.ak.1) (Nat.le_of_ble_eq_true rfl) (by omega) rfl (Nat.le_of_ble_eq_true rfl) (GV.up (fun h H => pass_V (men := (1 : Int32) <<< (nI p &&& 31)) (look := false) (by omega) H.ak rfl H.aT hw H.ath he (by omega) H.apth H.apk) (fun h v h' H q => ⟨q.1, H.wLt q.2.1 q.2.2.1 q.2.2.2⟩)) (GV.wrK ?_)
    rw [passS_kI]
    refine GV.iinc (v := 1) dX11_chance_109 rfl (by decide) (by decide) rfl ?_
    refine GV.goto 88 dX11_chance_112 (by decide) ?_
    refine GV.weak [some (.ref z), some (.int (y)), some (.int (nI n)), some (.int (nI p)), some (.int (l)), some (.int (x)), some (.int (t)), some (.int (nI r)), some (.int (nI (i + 1)))] (by simp [leL, sto1, sto2, k2c, nI_1]) ?_
    exact ih (i + 1) _ (by omega) (by rw [passS_0]; exact he) hc
theorem setNum_i (c : St) (x : Int32) : (setNum c x).1 0 = c.1 0 ∧ (setNum c x).1 7 = c.1 7 ∧ (setNum c x).1 10 = x := by simp [setNum, upd]
theorem chance_eq {T : Tx} {c e : St} {n p : Nat} {x : Int32} (hw : wfT T) (hp6 : p < 6) : eqP p (hoursS T (kW 1) ((1 : Int32) <<< (nI p &&& 31)) false n (setNum (cCopy e c) x)) (hoursS T (kW 1) 63 true n (setNum c x)) := by
  refine eqP.hours hw hp6 (bitI p hp6) (lit63 p hp6) n _ _ ?_
  have h : eqP p (cCopy e c) c := cCopy_eq
  exact ⟨by rw [(setNum_i _ _).2.1, (setNum_i _ _).2.1]; exact h.1, by rw [(setNum_i _ _).2.2, (setNum_i _ _).2.2], h.2.2.1, h.2.2.2.1, h.2.2.2.2.1, h.2.2.2.2.2.1, h.2.2.2.2.2.2⟩
set_option maxRecDepth 100000 in
set_option maxHeartbeats 2000000 in
theorem chance_out {d n0 z : Nat} {κ : Kd} {h0 : Hp} (hd : 9 ≤ d) {s : St} {T T2 : Tx} {c g th u F k pa tu rd tk : St} {n p : Nat} {y l : Int32} (hw : wfT T) (hp : c.1 0 = T.1.1 0) (hn : n ≤ 10000) (hp6 : p < 6) : ∀ (j i : Nat) (x t : Int32) (e : St), i + j = 10 → GV (IB z h0) MX11_chance (d, 0, 0, n0, κ) (mkF s T T2 c g e u F (kInit k (s.2.2.2 3) 1) pa tu rd tk) 58 [some (.ref z), some (.int (y)), some (.int (nI n)), some (.int (nI p)), some (.int (l)), some (.int (x)), some (.int (t)), some (.int (nI i)), none] [] (fun v S' => v = some (.int (chanceF T c n p l j x t)) ∧ ∃ th' : St, S' = mkF s T T2 c g th' u F (kInit k (s.2.2.2 3) 1) pa tu rd tk) := by
  intro j
  induction j with
  | zero =>
    intro i x t e hij
    have hin : i = 10 := by omega
    subst hin
    refine GV.iload dX11_chance_58 rfl ?_
    refine GV.bipush (v := 10) dX11_chance_60 (by decide) ?_
    refine GV.icmp_ge 146 dX11_chance_62 (by decide) (fun _ => ?_) (fun z => absurd (by decide) z)
    refine GV.iload dX11_chance_146 rfl ?_
    refine GV.iret dX11_chance_148 rfl ?_
    exact ⟨rfl, _, rfl⟩
  | succ j ih =>
    intro i x t e hij
    refine GV.iload dX11_chance_58 rfl ?_
    refine GV.bipush (v := 10) dX11_chance_60 (by decide) ?_
    refine GV.icmp_ge 146 dX11_chance_62 (by decide) (fun z => absurd z (nI_ge (a := i) (b := 10) (by omega) (by omega))) (fun _ => ?_)
    refine GV.aload_n dX11_chance_65 rfl ?_
    refine GV.getf okX11 8 (fun h H => H.aown.1) fl_X11_42 dX11_chance_66 (by decide) rfl ?_
    refine GV.aload_n dX11_chance_69 rfl ?_
    refine GV.getf okX11 5 (fun h H => H.aown.1) fl_X11_35 dX11_chance_70 (by decide) rfl ?_
    refine GV.cV1 (ci := 0) yoX0_copy ml_X11_280 im_X0_copy se_X0_copy dX11_chance_73 rfl (fun h H => H.ath.1) (Nat.le_of_ble_eq_true rfl) (by omega) rfl (Nat.le_of_ble_eq_true rfl) (GV.up (fun h H => copy_V (by omega) H.ath H.ac (by omega)) (fun h v h' H q => ⟨q.1, H.wth q.2.1 q.2.2⟩)) (GV.wrK ?_)
    refine GV.aload_n dX11_chance_76 rfl ?_
    refine GV.getf okX11 8 (fun h H => H.aown.1) fl_X11_42 dX11_chance_77 (by decide) rfl ?_
    refine GV.iload dX11_chance_80 rfl ?_
    refine GV.putf okX0 10 (fun h H => H.ath.1) fl_X11_298 dX11_chance_82 (by decide) rfl (rfl) (rfl) (Nat.le_of_ble_eq_true rfl) (fun h h' H e o => H.wth (isR.setI C0_ok H.ath 10 _ (fun _ _ => rfl) e o) (fun b hb => o b (by omega))) ?_
    refine GV.iconst (v := 0) dX11_chance_85 (by decide) ?_
    refine GV.istore dX11_chance_86 (by decide) rfl ?_
    refine GV.weak [some (.ref z), some (.int (y)), some (.int (nI n)), some (.int (nI p)), some (.int (l)), some (.int (x)), some (.int (t)), some (.int (nI i)), some (.int (nI 0))] (by simp [leL, sto1, sto2, k2c]; try rfl) ?_
    refine chance_in (th := th) (r := i) (by omega) hw hn hp6 n 0 (setNum (cCopy e c) x) (by omega) (by rw [(setNum_i _ _).1, cCopy_0.1]; exact hp) ?_
    have hE := chance_eq (T := T) (c := c) (e := e) (n := n) (x := x) hw hp6
    refine GV.aload_n dX11_chance_115 rfl ?_
    refine GV.getf okX11 8 (fun h H => H.aown.1) fl_X11_42 dX11_chance_116 (by decide) rfl ?_
    refine GV.getf okX0 10 (fun h H => H.ath.1) fl_X11_298 dX11_chance_119 (by decide) rfl ?_
    refine GV.istore dX11_chance_122 (by decide) rfl ?_
    refine GV.aload_n dX11_chance_124 rfl ?_
    refine GV.getf okX11 8 (fun h H => H.aown.1) fl_X11_42 dX11_chance_125 (by decide) rfl ?_
    refine GV.iload_n dX11_chance_128 rfl ?_
    refine GV.cV1 (ci := 0) yoX0_leftOf ml_X11_131 im_X0_leftOf se_X0_leftOf dX11_chance_129 rfl (fun h H => H.ath.1) (Nat.le_of_ble_eq_true rfl) (by omega) rfl (Nat.le_of_ble_eq_true rfl) (GV.rd (fun h H => leftOf_V (by omega) H.ath hp6)) (GV.rdK ?_)
    refine GV.iload dX11_chance_132 rfl ?_
    refine GV.icmp_lt 140 dX11_chance_134 (by decide) (fun c134 => ?_) (fun c134 => ?_)
    · skip
      have q : ¬ l ≤ cLeft (hoursS T (kW 1) 63 true n (setNum c x)) p := by rw [← hE.left]; exact Int32.not_le.mpr c134
      refine GV.iinc (v := 1) dX11_chance_140 rfl (by decide) (by decide) rfl ?_
      refine GV.goto 58 dX11_chance_143 (by decide) ?_
      refine GV.weak [some (.ref z), some (.int (y)), some (.int (nI n)), some (.int (nI p)), some (.int (l)), some (.int ((hoursS T (kW 1) 63 true n (setNum c x)).1 10)), some (.int (t + (if l ≤ cLeft (hoursS T (kW 1) 63 true n (setNum c x)) p then 1 else 0))), some (.int (nI (i + 1))), none] (by simp [leL, sto1, sto2, k2c, nI_1, hE.2.1, q]) ?_
      exact ih (i + 1) _ _ _ (by omega)
    · skip
      have q : l ≤ cLeft (hoursS T (kW 1) 63 true n (setNum c x)) p := by rw [← hE.left]; exact Int32.not_lt.mp c134
      refine GV.iinc (v := 1) dX11_chance_137 rfl (by decide) (by decide) rfl ?_
      refine GV.iinc (v := 1) dX11_chance_140 rfl (by decide) (by decide) rfl ?_
      refine GV.goto 58 dX11_chance_143 (by decide) ?_
      refine GV.weak [some (.ref z), some (.int (y)), some (.int (nI n)), some (.int (nI p)), some (.int (l)), some (.int ((hoursS T (kW 1) 63 true n (setNum c x)).1 10)), some (.int (t + (if l ≤ cLeft (hoursS T (kW 1) 63 true n (setNum c x)) p then 1 else 0))), some (.int (nI (i + 1))), none] (by simp [leL, sto1, sto2, k2c, nI_1, hE.2.1, q]) ?_
      exact ih (i + 1) _ _ _ (by omega)
set_option maxRecDepth 100000 in
set_option maxHeartbeats 2000000 in
theorem chance_F {d n0 z : Nat} {κ : Kd} {h0 : Hp} (hd : 11 ≤ d) {s : St} {T T2 : Tx} {c g th u F k pa tu rd tk : St} {x w y l : Int32} (hw : wfT T) (hp : c.1 0 = T.1.1 0) : GV (IB z h0) MX11_chance (d, 0, 0, n0, κ) (mkF s T T2 c g th u F k pa tu rd tk) 0 [some (.ref z), some (.int (x)), some (.int (w)), some (.int (y)), some (.int (l)), none, none, none, none] [] (fun v S' => v = some (.int (aChance T c x w y l)) ∧ ∃ th' k' : St, S' = mkF s T T2 c g th' u F k' pa tu rd tk) := by
  refine GV.iload_n dX11_chance_0 rfl ?_
  refine GV.if_lt 35 dX11_chance_1 (by decide) (fun c1 => ?_) (fun c1 => ?_)
  · skip
    have hA : aChance T c x w y l = -1 := if_neg (fun z => z.1 c1)
    refine GV.iconst (v := (-1)) dX11_chance_35 (by decide) ?_
    refine GV.iret dX11_chance_36 rfl ?_
    rw [hA]
    exact ⟨rfl, th, k, rfl⟩
  · skip
    refine GV.iload_n dX11_chance_4 rfl ?_
    refine GV.iconst (v := 1) dX11_chance_5 (by decide) ?_
    refine GV.icmp_lt 35 dX11_chance_6 (by decide) (fun c6 => ?_) (fun c6 => ?_)
    · skip
      have hA : aChance T c x w y l = -1 := if_neg (fun z => z.2.1 c6)
      refine GV.iconst (v := (-1)) dX11_chance_35 (by decide) ?_
      refine GV.iret dX11_chance_36 rfl ?_
      rw [hA]
      exact ⟨rfl, th, k, rfl⟩
    · skip
      obtain ⟨n, rfl, hn2, hnn⟩ := nat_nn (x := w) (fun z => c6 (Int32.lt_trans z (by decide)))
      refine GV.iload_n dX11_chance_9 rfl ?_
      refine GV.bipush (v := 99) dX11_chance_10 (by decide) ?_
      refine GV.icmp_gt 35 dX11_chance_12 (by decide) (fun c12 => ?_) (fun c12 => ?_)
      · skip
        have hA : aChance T c x (nI n) y l = -1 := if_neg (fun z => z.2.2.1 c12)
        refine GV.iconst (v := (-1)) dX11_chance_35 (by decide) ?_
        refine GV.iret dX11_chance_36 rfl ?_
        rw [hA]
        exact ⟨rfl, th, k, rfl⟩
      · skip
        have hx3 : n ≤ 99 := nI_le_of hn2 (by omega) c12
        refine GV.aload_n dX11_chance_15 rfl ?_
        refine GV.iload_n dX11_chance_16 rfl ?_
        refine GV.cV1 (ci := 11) yoX11_isPerson ml_X11_120 im_X11_isPerson se_X11_isPerson dX11_chance_17 rfl (fun h H => H.aown.1) (Nat.le_of_ble_eq_true rfl) (by omega) rfl (Nat.le_of_ble_eq_true rfl) (isPerson_F (by omega)) (GV.rdK ?_)
        refine GV.if_eq 35 dX11_chance_20 (by decide) (fun c20 => ?_) (fun c20 => ?_)
        · skip
          have hno := bI_f c20
          have hA : aChance T c x (nI n) y l = -1 := if_neg (fun z => by have := z.2.2.2.1; rw [hno] at this; cases this)
          refine GV.iconst (v := (-1)) dX11_chance_35 (by decide) ?_
          refine GV.iret dX11_chance_36 rfl ?_
          rw [hA]
          exact ⟨rfl, th, k, rfl⟩
        · skip
          have hman := bI_t c20
          obtain ⟨p, rfl, hpn, hp6, hnp⟩ := man_of hw hman
          refine GV.iload dX11_chance_23 rfl ?_
          refine GV.if_lt 35 dX11_chance_25 (by decide) (fun c25 => ?_) (fun c25 => ?_)
          · skip
            have hA : aChance T c x (nI n) (nI p) l = -1 := if_neg (fun z => z.2.2.2.2.1 c25)
            refine GV.iconst (v := (-1)) dX11_chance_35 (by decide) ?_
            refine GV.iret dX11_chance_36 rfl ?_
            rw [hA]
            exact ⟨rfl, th, k, rfl⟩
          · skip
            refine GV.iload dX11_chance_28 rfl ?_
            refine GV.bipush (v := 60) dX11_chance_30 (by decide) ?_
            refine GV.icmp_le 37 dX11_chance_32 (by decide) (fun c32 => ?_) (fun c32 => ?_)
            · skip
              have c32 : ¬ 60 < l := Int32.not_lt.mpr c32
              refine GV.aload_n dX11_chance_37 rfl ?_
              refine GV.getf okX11 9 (fun h H => H.aown.1) fl_X11_48 dX11_chance_38 (by decide) rfl ?_
              refine GV.aload_n dX11_chance_41 rfl ?_
              refine GV.getf okX11 3 (fun h H => H.aown.1) fl_X11_25 dX11_chance_42 (by decide) rfl ?_
              refine GV.iconst (v := 1) dX11_chance_45 (by decide) ?_
              refine GV.cV2 (ci := 1) yoX1_begin ml_X11_269 im_X1_begin se_X1_begin dX11_chance_46 rfl (fun h H => H.ak.1) (Nat.le_of_ble_eq_true rfl) (by omega) rfl (Nat.le_of_ble_eq_true rfl) (GV.up (fun h H => kBegin_V (w := 1) (by omega) H.ak) (fun h v h' H q => ⟨q.1, H.wk q.2.1 q.2.2⟩)) (GV.wrK ?_)
              refine GV.iload_n dX11_chance_49 rfl ?_
              refine GV.istore dX11_chance_50 (by decide) rfl ?_
              refine GV.iconst (v := 0) dX11_chance_52 (by decide) ?_
              refine GV.istore dX11_chance_53 (by decide) rfl ?_
              refine GV.iconst (v := 0) dX11_chance_55 (by decide) ?_
              refine GV.istore dX11_chance_56 (by decide) rfl ?_
              refine GV.weak [some (.ref z), some (.int (x)), some (.int (nI n)), some (.int (nI p)), some (.int (l)), some (.int (x)), some (.int 0), some (.int (nI 0)), none] (by simp [leL, sto1, sto2, k2c]; try rfl) ?_
              refine GV.post ?_ (chance_out (th := th) (by omega) hw hp (by omega) hp6 10 0 x 0 th (by omega))
              rintro _ _ ⟨rfl, th1, rfl⟩
              refine ⟨?_, _, _, rfl⟩
              unfold aChance
              rw [if_pos ⟨c1, c6, c12, hman, c25, c32⟩, hnn, hnp]
            · skip
              have hA : aChance T c x (nI n) (nI p) l = -1 := if_neg (fun z => z.2.2.2.2.2 (Int32.not_le.mp c32))
              refine GV.iconst (v := (-1)) dX11_chance_35 (by decide) ?_
              refine GV.iret dX11_chance_36 rfl ?_
              rw [hA]
              exact ⟨rfl, th, k, rfl⟩
