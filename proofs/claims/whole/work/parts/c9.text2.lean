/-! The face of BurntEnds: text -/
theorem IB.wRd {z : Nat} {h0 h h' : Hp} {s : St} {T T2 T9 : Tx} {c g th u F k pa tu rd tk rd' tk' : St} (H : IB z h0 (mkF s T T2 c g th u F k pa tu rd tk) h) (H6 : isR C6 h' (z + 2) rd') (H7 : isR C7 h' (z + 3) tk') (HT : isT h' (s.2.2.2 4) T9) (fr : ∀ b : Nat, ((b < z + 2 ∨ z + 2 + 23 ≤ b) ∧ (b < s.2.2.2 4 ∨ s.2.2.2 4 + 19 ≤ b)) → h' b = h b) : IB z h0 (mkF s T T9 c g th u F k pa tu rd' tk') h' := by
  have sp : (s.2.2.2 3 = z + 25 ∧ s.2.2.2 4 = z + 44) ∨ (s.2.2.2 3 = z + 44 ∧ s.2.2.2 4 = z + 25) := H.1.2.1
  have a := isB.put (D := fun b => (z + 2 ≤ b ∧ b < z + 25) ∨ (s.2.2.2 4 ≤ b ∧ b < s.2.2.2 4 + 19)) H.1 (fun b hb => fr b (by omega))
  have q : ∀ b : Nat, ((z + 2 ≤ b ∧ b < z + 25) ∨ (s.2.2.2 4 ≤ b ∧ b < s.2.2.2 4 + 19)) → (z + 2 ≤ b ∧ b < z + 25) ∨ (s.2.2.2 4 ≤ b ∧ b < s.2.2.2 4 + 19) := fun b d => d
  refine ⟨⟨a.1 (fun b d => by have := q b d; omega), H.1.2.1, a.2.1 (fun b d => by have := q b d; omega), HT, a.2.2.2.1 (fun b d => by have := q b d; omega), a.2.2.2.2.1 (fun b d => by have := q b d; omega), a.2.2.2.2.2.1 (fun b d => by have := q b d; omega), a.2.2.2.2.2.2.1 (fun b d => by have := q b d; omega), a.2.2.2.2.2.2.2.1 (fun b d => by have := q b d; omega), a.2.2.2.2.2.2.2.2.1 (fun b d => by have := q b d; omega), a.2.2.2.2.2.2.2.2.2.1 (fun b d => by have := q b d; omega), a.2.2.2.2.2.2.2.2.2.2.1 (fun b d => by have := q b d; omega), H6, H7⟩, fun b hb => (fr b (by omega)).trans (H.2 b hb)⟩
/-- what reading leaves of itself -/
def rdOK (rd tk : St) (S : PS) : Prop := rd.1 0 = S.2.2.1 ∧ rd.1 1 = S.2.2.2.1 ∧ isW (rd.2.1 4) S.2.2.2.2.1 ∧ rd.1 5 = nI S.2.2.2.2.1.length ∧ rd.1 6 = nI S.2.2.2.2.2 ∧ tk.1 4 = nI S.1.2.2.1
def swS (s : St) : St := (s.1, s.2.1, s.2.2.1, uN (uN s.2.2.2 3 (s.2.2.2 4)) 4 (s.2.2.2 3))
def TFP (s : St) (T : Tx) (c g th u F k pa tu : St) (R : Int32 × PS) (v : Option Value) (S' : FS) : Prop := v = some (.int R.1) ∧ ∃ s' rd' tk' : St, (s'.1 1 = 0 ∧ s'.2.1 = s.2.1) ∧ rdOK rd' tk' R.2 ∧ ((R.1 < 0 ∧ S' = mkF s' T R.2.2.1 c g th u F k pa tu rd' tk' ∧ s'.1 7 = s.1 7) ∨ (¬ R.1 < 0 ∧ S' = mkF s' R.2.2.1 T (cBegin c R.2.2.1.1) g th (uZero u) (fZero F) k pa tu rd' tk' ∧ s'.1 7 = 0))
set_option maxRecDepth 100000 in
set_option maxHeartbeats 1000000 in
theorem swap_F {d n0 z : Nat} {κ : Kd} {h0 : Hp} {s : St} {T T2 : Tx} {c g th u F k pa tu rd tk : St} {x y : Int32} {P : Option Value → FS → Prop} (K : GV (IB z h0) MX11_text (d, 0, 0, n0, κ) (mkF (swS s) T2 T c g th u F k pa tu rd tk) 61 [some (.ref z), some (.int x), some (.int y), none] [] P) : GV (IB z h0) MX11_text (d, 0, 0, n0, κ) (mkF s T T2 c g th u F k pa tu rd tk) 43 [some (.ref z), some (.int x), some (.int y), none] [] P := by
  intro h H
  refine V.aload_n dX11_text_43 rfl ?_
  refine V.getf okX11 3 fl_X11_25 dX11_text_44 (by decide) H.aown.1 rfl ?_
  refine V.astore_n dX11_text_47 (by decide) rfl ?_
  refine V.aload_n dX11_text_48 rfl ?_
  refine V.aload_n dX11_text_49 rfl ?_
  refine V.getf okX11 4 fl_X11_29 dX11_text_50 (by decide) H.aown.1 rfl ?_
  refine V.putfH okX11 3 fl_X11_25 dX11_text_53 (by decide) rfl H.aown.1 (rfl) (rfl) (Nat.le_of_ble_eq_true rfl) (fun h1 e1 o1 => ?_)
  have H1 : isR C11 h1 z (s.1, s.2.1, s.2.2.1, uN s.2.2.2 3 (s.2.2.2 4)) := isR.setP C11_ok H.aown 3 _ (fun _ _ => rfl) e1 o1
  refine V.aload_n dX11_text_56 rfl ?_
  refine V.aload_n dX11_text_57 rfl ?_
  refine V.putfH okX11 4 fl_X11_29 dX11_text_58 (by decide) rfl H1.1 (rfl) (rfl) (Nat.le_of_ble_eq_true rfl) (fun h2 e2 o2 => ?_)
  have H2 : isR C11 h2 z (swS s) := isR.setP C11_ok H1 4 _ (fun _ _ => rfl) e2 o2
  have sp : (s.2.2.2 3 = z + 25 ∧ s.2.2.2 4 = z + 44) ∨ (s.2.2.2 3 = z + 44 ∧ s.2.2.2 4 = z + 25) := H.1.2.1
  have a := isB.put (h' := h2) (D := fun b => b = z) H.1 (fun b hb => (o2 b hb).trans (o1 b hb))
  have q : ∀ b : Nat, b = z → b = z := fun b d => d
  refine V.weak [some (.ref z), some (.int x), some (.int y), none] (by simp [leL, sto1, sto2, k2c]) ?_
  refine K h2 ⟨⟨H2, ?_, ?_, ?_, a.2.2.2.1 (fun b d => by have := q b d; omega), a.2.2.2.2.1 (fun b d => by have := q b d; omega), a.2.2.2.2.2.1 (fun b d => by have := q b d; omega), a.2.2.2.2.2.2.1 (fun b d => by have := q b d; omega), a.2.2.2.2.2.2.2.1 (fun b d => by have := q b d; omega), a.2.2.2.2.2.2.2.2.1 (fun b d => by have := q b d; omega), a.2.2.2.2.2.2.2.2.2.1 (fun b d => by have := q b d; omega), a.2.2.2.2.2.2.2.2.2.2.1 (fun b d => by have := q b d; omega), (a.2.2.2.2.2.2.2.2.2.2.2 (fun b d => by have := q b d; omega)).1, (a.2.2.2.2.2.2.2.2.2.2.2 (fun b d => by have := q b d; omega)).2⟩, fun b hb => ((o2 b (by omega)).trans (o1 b (by omega))).trans (H.2 b hb)⟩
  · exact Or.symm (sp.imp (fun z => ⟨z.2, z.1⟩) (fun z => ⟨z.2, z.1⟩))
  · exact a.2.2.1 (fun b d => by have := q b d; omega)
  · exact a.2.1 (fun b d => by have := q b d; omega)
theorem rd_up {z : Nat} {h0 h h' : Hp} {s : St} {T T2 : Tx} {c g th u F k pa tu rd tk : St} {b : Nat → Int32} {n : Nat} {R : Int32 × PS} {v : Option Value} (H : IB z h0 (mkF s T T2 c g th u F k pa tu rd tk) h) (q : v = some (.int R.1) ∧ isP h' (z + 2) (s.2.2.2 4) (z + 1) n b R.2 ∧ ∀ x : Nat, ((x < z + 2 ∨ z + 2 + 23 ≤ x) ∧ (x < s.2.2.2 4 ∨ s.2.2.2 4 + 19 ≤ x)) → h' x = h x) :
    ∃ S' : FS, (v = some (.int R.1) ∧ ∃ rd' tk' : St, rdOK rd' tk' R.2 ∧ S' = mkF s T R.2.2.1 c g th u F k pa tu rd' tk') ∧ IB z h0 S' h' := by
  obtain ⟨q1, ⟨s6, a1, a2, a3, a4, a5, a6, a7, ⟨sk, b1, b2, b3, b4, b5, b6, b7⟩, a9, a10⟩, q3⟩ := q
  exact ⟨_, ⟨q1, s6, sk, ⟨a3, a4, a5, a6, a7, b6⟩, rfl⟩, H.wRd a1 b1 a9 q3⟩
set_option maxRecDepth 100000 in
set_option maxHeartbeats 1000000 in
theorem textT_F {d n0 z : Nat} {κ : Kd} {h0 : Hp} (hd : 3 ≤ d) {s : St} {T T2 : Tx} {c g th u F k pa tu rd tk : St} {x y : Int32} : GV (IB z h0) MX11_text (d, 0, 0, n0, κ) (mkF s T T2 c g th u F k pa tu rd tk) 61 [some (.ref z), some (.int (x)), some (.int (y)), none] [] (gW (some (.int y)) (mkF ((upd s.1 7 0, s.2.1, s.2.2.1, s.2.2.2) : St) T T2 (cBegin c T.1) g th (uZero u) (fZero F) k pa tu rd tk)) := by
  refine GV.aload_n dX11_text_61 rfl ?_
  refine GV.getf okX11 5 (fun h H => H.aown.1) fl_X11_35 dX11_text_62 (by decide) rfl ?_
  refine GV.aload_n dX11_text_65 rfl ?_
  refine GV.getf okX11 3 (fun h H => H.aown.1) fl_X11_25 dX11_text_66 (by decide) rfl ?_
  refine GV.cV1 (ci := 0) yoX0_begin ml_X11_98 im_X0_begin se_X0_begin dX11_text_69 rfl (fun h H => H.ac.1) (Nat.le_of_ble_eq_true rfl) (by omega) rfl (Nat.le_of_ble_eq_true rfl) (GV.up (fun h H => begin_V (by omega) H.ac H.aT.1 (by have := H.apc; omega)) (fun h v h' H q => ⟨q.1, H.wc q.2.1 q.2.2⟩)) (GV.wrK ?_)
  refine GV.aload_n dX11_text_72 rfl ?_
  refine GV.iconst (v := 0) dX11_text_73 (by decide) ?_
  refine GV.putf okX11 7 (fun h H => H.aown.1) fl_X11_102 dX11_text_74 (by decide) rfl (rfl) (rfl) (Nat.le_of_ble_eq_true rfl) (fun h h' H e o => H.ws (isR.setI C11_ok H.aown 7 _ (fun _ _ => rfl) e o) rfl rfl (fun b hb => o b (by omega))) ?_
  refine GV.aload_n dX11_text_77 rfl ?_
  refine GV.getf okX11 10 (fun h H => H.aown.1) fl_X11_55 dX11_text_78 (by decide) rfl ?_
  refine GV.cV0 (ci := 10) yoX10_forget ml_X11_106 im_X10_forget se_X10_forget dX11_text_81 rfl (fun h H => H.au.1) (Nat.le_of_ble_eq_true rfl) (by omega) rfl (Nat.le_of_ble_eq_true rfl) (GV.up (fun h H => uZero_V (by omega) H.au) (fun h v h' H q => ⟨q.1, H.wu q.2.1 q.2.2⟩)) (GV.wrK ?_)
  refine GV.aload_n dX11_text_84 rfl ?_
  refine GV.getf okX11 11 (fun h H => H.aown.1) fl_X11_62 dX11_text_85 (by decide) rfl ?_
  refine GV.cV0 (ci := 3) yoX3_forget ml_X11_109 im_X3_forget se_X3_forget dX11_text_88 rfl (fun h H => H.aF.1) (Nat.le_of_ble_eq_true rfl) (by omega) rfl (Nat.le_of_ble_eq_true rfl) (GV.up (fun h H => fZero_V (by omega) H.aF) (fun h v h' H q => ⟨q.1, H.wF q.2.1 q.2.2⟩)) (GV.wrK ?_)
  refine GV.iload_n dX11_text_91 rfl ?_
  refine GV.iret dX11_text_92 rfl ?_
  exact ⟨rfl, rfl⟩
theorem nI_inj {n m : Nat} (h1 : n < 2147483648) (h2 : m < 2147483648) (h : nI n = nI m) : n = m := by
  have := congrArg nat h
  rwa [show nat (nI n) = n from nI_clamp h1, show nat (nI m) = m from nI_clamp h2] at this
theorem readP_neg {b : Nat → Int32} {n : Nat} : ∀ {f i : Nat} {S : PS}, f + i < 2147483648 → (readP b n f i S).1 < 0 → (readP b n f i S).1 = -1 := by
  intro f
  induction f with
  | zero => intro i S h z; exact absurd z (nI_nlt0 i (by omega))
  | succ f ih =>
    intro i S h z
    rw [readP] at z ⊢
    by_cases q1 : S.1.2.1 = -1
    · rw [if_pos q1] at z
      exact absurd z (nI_nlt0 i (by omega))
    · rw [if_neg q1] at z ⊢
      by_cases q2 : (lineP b n S).1 = true
      · rw [if_pos q2] at z ⊢
        by_cases q3 : (nextP 30 (lineP b n S).2).1 = true
        · rw [if_pos q3] at z ⊢
          exact ih (by omega) z
        · rw [if_neg q3]
      · rw [if_neg q2]
set_option maxRecDepth 100000 in
set_option maxHeartbeats 2000000 in
theorem text_F {d n0 z : Nat} {κ : Kd} {h0 : Hp} (hd : 12 ≤ d) {s : St} {T T2 : Tx} {c g th u F k pa tu rd tk : St} {x : Int32} {t pl o : Nat} {l : List Int32} (ht : s.1 1 = nI t) (ht7 : t ≤ 700) (hpl : tk.1 4 = nI pl) (hwt : isW (rd.2.1 4) l ∧ rd.1 5 = nI l.length ∧ rd.1 6 = nI o) (hc : T2.2.1.1 1 = 12 ∧ T2.2.2.1.1 1 = 8) (hbb : ∀ k, k < t → ¬ s.2.1 0 k = -1) : GV (IB z h0) MX11_text (d, 0, 0, n0, κ) (mkF s T T2 c g th u F k pa tu rd tk) 0 [some (.ref z), some (.int (x)), none, none] [] (fun v S' => ((x < 0 ∨ nI t < x) → v = some (.int (-2)) ∧ S' = mkF s T T2 c g th u F k pa tu rd tk) ∧ ∀ n : Nat, x = nI n → n ≤ t → TFP s T c g th u F k pa tu (readP (s.2.1 0) n (n + 1) 0 (S00 (s.2.1 0) n (tk.1 3) pl (tk.1 5) T2 l o)) v S') := by
  refine GV.iload_n dX11_text_0 rfl ?_
  refine GV.if_lt 12 dX11_text_1 (by decide) (fun c1 => ?_) (fun c1 => ?_)
  · skip
    have hx : x < 0 ∨ nI t < x := Or.inl c1
    refine GV.bipush (v := (-2)) dX11_text_12 (by decide) ?_
    refine GV.iret dX11_text_14 rfl ?_
    exact ⟨fun _ => ⟨rfl, rfl⟩, fun m hm hmt => absurd hx (fun z => z.elim (fun z => by rw [hm] at z; exact nI_nlt0 m (by omega) z) (fun z => by rw [hm] at z; exact nI_nlt (a := t) (b := m) hmt (by omega) z))⟩
  · skip
    obtain ⟨n, rfl, hn2, hnn⟩ := nat_nn c1
    refine GV.iload_n dX11_text_4 rfl ?_
    refine GV.aload_n dX11_text_5 rfl ?_
    refine GV.getf okX11 1 (fun h H => H.aown.1) fl_X11_86 dX11_text_6 (by decide) rfl ?_
    refine GV.icmp_le 15 dX11_text_9 (by decide) (fun c9 => ?_) (fun c9 => ?_)
    · skip
      have hnt : n ≤ t := nI_le_of hn2 (by omega) (by rw [← ht]; exact Int32.not_lt.mpr c9)
      have hx : ¬ (nI n < 0 ∨ nI t < nI n) := fun z => z.elim c1 (fun z => by rw [← ht] at z; exact absurd c9 (Int32.not_le.mpr z))
      have hbn : ∀ k, k < n → ¬ s.2.1 0 k = -1 := fun k hk => hbb k (by omega)
      refine GV.aload_n dX11_text_15 rfl ?_
      refine GV.iconst (v := 0) dX11_text_16 (by decide) ?_
      refine GV.putf okX11 1 (fun h H => H.aown.1) fl_X11_86 dX11_text_17 (by decide) rfl (rfl) (rfl) (Nat.le_of_ble_eq_true rfl) (fun h h' H e o => H.ws (isR.setI C11_ok H.aown 1 _ (fun _ _ => rfl) e o) rfl rfl (fun b hb => o b (by omega))) ?_
      refine GV.aload_n dX11_text_20 rfl ?_
      refine GV.getf okX11 2 (fun h H => H.aown.1) fl_X11_18 dX11_text_21 (by decide) rfl ?_
      refine GV.aload_n dX11_text_24 rfl ?_
      refine GV.getf okX11 0 (fun h H => H.aown.1) fl_X11_11 dX11_text_25 (by decide) rfl ?_
      refine GV.iload_n dX11_text_28 rfl ?_
      refine GV.aload_n dX11_text_29 rfl ?_
      refine GV.getf okX11 4 (fun h H => H.aown.1) fl_X11_29 dX11_text_30 (by decide) rfl ?_
      refine GV.cV3 (ci := 6) yoX6_read ml_X11_94 im_X6_read se_X6_read dX11_text_33 rfl (fun h H => H.ard.1) (Nat.le_of_ble_eq_true rfl) (by omega) rfl (Nat.le_of_ble_eq_true rfl) (GV.lift (P1 := fun v S' => v = some (.int (readP (s.2.1 0) n (n + 1) 0 (S00 (s.2.1 0) n (tk.1 3) pl (tk.1 5) T2 l o)).1) ∧ ∃ rd' tk' : St, rdOK rd' tk' (readP (s.2.1 0) n (n + 1) 0 (S00 (s.2.1 0) n (tk.1 3) pl (tk.1 5) T2 l o)).2 ∧ S' = mkF ((upd s.1 1 0, s.2.1, s.2.2.1, s.2.2.2) : St) T (readP (s.2.1 0) n (n + 1) 0 (S00 (s.2.1 0) n (tk.1 3) pl (tk.1 5) T2 l o)).2.2.1 c g th u F k pa tu rd' tk') (fun h H => read_V (by omega) H.ard H.atk hpl hwt H.aT2 hc (C11_r0 H.aown) (by have sp : (s.2.2.2 3 = z + 25 ∧ s.2.2.2 4 = z + 44) ∨ (s.2.2.2 3 = z + 44 ∧ s.2.2.2 4 = z + 25) := H.1.2.1; show (s.2.2.2 4 + 19 ≤ z + 2 ∨ z + 2 + 23 ≤ s.2.2.2 4) ∧ (z + 1 < z + 2 ∨ z + 2 + 23 ≤ z + 1) ∧ (z + 1 < s.2.2.2 4 ∨ s.2.2.2 4 + 19 ≤ z + 1); omega) (by omega) hbn) (fun h v h' H q => rd_up H q)) (?_)
      rintro _ _ ⟨rfl, rd1, tk1, hrd, rfl⟩
      refine GV.istore_n dX11_text_36 (by decide) rfl ?_
      refine GV.iload_n dX11_text_37 rfl ?_
      refine GV.if_ge 43 dX11_text_38 (by decide) (fun c38 => ?_) (fun c38 => ?_)
      · skip
        refine swap_F ?_
        refine GV.post ?_ (textT_F (by omega))
        rintro _ _ ⟨rfl, rfl⟩
        refine ⟨fun z => absurd z hx, fun m hm hmt => ?_⟩
        have hmn : n = m := (nI_inj (by omega) (by omega) hm)
        subst hmn
        exact ⟨rfl, ((upd (swS ((upd s.1 1 0, s.2.1, s.2.2.1, s.2.2.2) : St)).1 7 0, (swS ((upd s.1 1 0, s.2.1, s.2.2.1, s.2.2.2) : St)).2.1, (swS ((upd s.1 1 0, s.2.1, s.2.2.1, s.2.2.2) : St)).2.2.1, (swS ((upd s.1 1 0, s.2.1, s.2.2.1, s.2.2.2) : St)).2.2.2) : St), rd1, tk1, ⟨rfl, rfl⟩, hrd, Or.inr ⟨fun z => absurd c38 (Int32.not_le.mpr z), rfl, rfl⟩⟩
      · skip
        have c38 := Int32.not_le.mp c38
        refine GV.iconst (v := (-1)) dX11_text_41 (by decide) ?_
        refine GV.iret dX11_text_42 rfl ?_
        refine ⟨fun z => absurd z hx, fun m hm hmt => ?_⟩
        have hmn : n = m := nI_inj (by omega) (by omega) hm
        subst hmn
        have e : (readP (s.2.1 0) n (n + 1) 0 (S00 (s.2.1 0) n (tk.1 3) pl (tk.1 5) T2 l o)).1 = -1 := readP_neg (by omega) c38
        exact ⟨by rw [e], ((upd s.1 1 0, s.2.1, s.2.2.1, s.2.2.2) : St), rd1, tk1, ⟨rfl, rfl⟩, hrd, Or.inl ⟨c38, rfl, rfl⟩⟩
    · skip
      have hx : nI n < 0 ∨ nI t < nI n := Or.inr (by rw [← ht]; exact Int32.not_le.mp c9)
      refine GV.bipush (v := (-2)) dX11_text_12 (by decide) ?_
      refine GV.iret dX11_text_14 rfl ?_
      exact ⟨fun _ => ⟨rfl, rfl⟩, fun m hm hmt => absurd hx (fun z => z.elim (fun z => by rw [hm] at z; exact nI_nlt0 m (by omega) z) (fun z => by rw [hm] at z; exact nI_nlt (a := t) (b := m) hmt (by omega) z))⟩
