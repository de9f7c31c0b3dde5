/-! The face of BurntEnds: match -/
theorem nI_max {a b : Nat} (ha : a < 100) (hb : b < 100) : (if nI a < nI b then nI b else nI a) = nI (max a b) := by
  by_cases h : a < b
  · rw [if_pos (nI_lt h (by omega)), Nat.max_eq_right (by omega)]
  · rw [if_neg (nI_nlt (by omega) (by omega)), Nat.max_eq_left (by omega)]
/-- only the row of lenders, of the own ones -/
def frO (s s' : St) : Prop := s'.1 = s.1 ∧ s'.2.1 0 = s.2.1 0 ∧ s'.2.2 = s.2.2
set_option maxRecDepth 100000 in
set_option maxHeartbeats 1000000 in
theorem most_V {n0 : Nat} {κ : Kd} {h : Hp} {b : Nat} {g : Nat → Int32} (H : h b = some (.inl (0, 6, .inl g))) : ∀ (j : Nat) {d : Nat} (p : Nat) (u : Int32), p + j = 6 → j + 2 ≤ d → V MX11_mostMatched (d, 0, 0, n0, κ) 0 0 h 0 [some (.ref b), some (.int (nI p)), some (.int u), none, none] [] (Rd h (.int (nI (moN g j p u)))) := by
  intro j
  induction j with
  | zero =>
    intro d p u hp hd
    have hp6 : p = 6 := by omega
    subst hp6
    refine V.iload_n dX11_mostMatched_0 rfl ?_
    refine V.if_lt 10 dX11_mostMatched_1 (by decide) (fun z => absurd z (nI_pos (by omega))) (fun _ => ?_)
    refine V.iload_n dX11_mostMatched_4 rfl ?_
    refine V.aload_n dX11_mostMatched_5 rfl ?_
    refine V.alen (v := nI 6) dX11_mostMatched_6 H (by decide) rfl ?_
    refine V.icmp_lt 12 dX11_mostMatched_7 (by decide) (fun z => absurd z (nI_nlt (a := 6) (b := 6) (by omega) (by omega))) (fun _ => ?_)
    refine V.iconst (v := 0) dX11_mostMatched_10 (by decide) ?_
    refine V.iret dX11_mostMatched_11 rfl ?_
    exact ⟨rfl, rfl⟩
  | succ j ih =>
    intro d p u hp hd
    refine V.iload_n dX11_mostMatched_0 rfl ?_
    refine V.if_lt 10 dX11_mostMatched_1 (by decide) (fun z => absurd z (nI_pos (by omega))) (fun _ => ?_)
    refine V.iload_n dX11_mostMatched_4 rfl ?_
    refine V.aload_n dX11_mostMatched_5 rfl ?_
    refine V.alen (v := nI 6) dX11_mostMatched_6 H (by decide) rfl ?_
    refine V.icmp_lt 12 dX11_mostMatched_7 (by decide) (fun _ => ?_) (fun z => absurd (nI_lt (b := 6) (by omega) (by omega)) z)
    refine V.aload_n dX11_mostMatched_12 rfl ?_
    refine V.iload_n dX11_mostMatched_13 rfl ?_
    refine V.iconst (v := 1) dX11_mostMatched_14 (by decide) ?_
    refine V.iadd dX11_mostMatched_15 ?_
    refine V.eqi (y := nI (p + 1)) (by rw [nI_1]) ?_
    refine V.iload_n dX11_mostMatched_16 rfl ?_
    refine V.cS3 yoX11_mostMatched ml_X11_365 st_X11_mostMatched dX11_mostMatched_17 (Nat.le_of_ble_eq_true rfl) (by omega) ⟨Nat.le_refl _, Nat.le_refl _⟩ rfl (Nat.le_of_ble_eq_true rfl) (ih (d := d - 1) (p + 1) u (by omega) (by omega)) (V.rdK ?_)
    refine V.istore_n dX11_mostMatched_20 (by decide) rfl ?_
    refine V.iconst (v := nI 0) dX11_mostMatched_21 (by decide) ?_
    refine V.istore dX11_mostMatched_22 (by decide) rfl ?_
    refine V.weak [some (.ref b), some (.int (nI p)), some (.int u), some (.int (nI (moN g j (p + 1) u))), some (.int (nI 0))] (by simp [leL, sto1, sto2, k2c]; first | done | rfl) ?_
    suffices hL : ∀ (k x m : Nat), x + k = 6 → m ≤ 7 → mxF (pkB g p u) (fun x => moN g j (p + 1) (u ||| bitM x)) k x m = mxF (pkB g p u) (fun x => moN g j (p + 1) (u ||| bitM x)) 6 0 (moN g j (p + 1) u) → V MX11_mostMatched (d, 0, 0, n0, κ) 0 0 h 24 [some (.ref b), some (.int (nI p)), some (.int u), some (.int (nI m)), some (.int (nI x))] [] (Rd h (.int (nI (moN g (j + 1) p u)))) from hL 6 0 _ (by omega) (by have := moN_le g j (p + 1) u; omega) rfl
    intro k
    induction k with
    | zero =>
      intro x m hx hm hr
      rw [mxF] at hr
      have hx6 : x = 6 := by omega
      subst hx6
      refine V.iload dX11_mostMatched_24 rfl ?_
      refine V.bipush (v := nI 6) dX11_mostMatched_26 (by decide) ?_
      refine V.icmp_ge 72 dX11_mostMatched_28 (by decide) (fun _ => ?_) (fun z => absurd (nI_le (by omega) (by omega)) z)
      refine V.iload_n dX11_mostMatched_72 rfl ?_
      refine V.iret dX11_mostMatched_73 rfl ?_
      exact ⟨by rw [moN, ← hr], rfl⟩
    | succ k ihk =>
      intro x m hx hm hr
      refine V.iload dX11_mostMatched_24 rfl ?_
      refine V.bipush (v := nI 6) dX11_mostMatched_26 (by decide) ?_
      refine V.icmp_ge 72 dX11_mostMatched_28 (by decide) (fun z => absurd z (nI_ge (by omega) (by omega))) (fun _ => ?_)
      refine V.aload_n dX11_mostMatched_31 rfl ?_
      refine V.iload_n dX11_mostMatched_32 rfl ?_
      refine V.ialdN dX11_mostMatched_33 (H) (rfl) (by omega) (by decide) ?_
      refine V.iload_n dX11_mostMatched_34 rfl ?_
      refine V.iconst (v := (-1)) dX11_mostMatched_35 (by decide) ?_
      refine V.ixor dX11_mostMatched_36 ?_
      refine V.iand dX11_mostMatched_37 ?_
      refine V.iload dX11_mostMatched_38 rfl ?_
      refine V.ishr dX11_mostMatched_40 ?_
      refine V.iconst (v := 1) dX11_mostMatched_41 (by decide) ?_
      refine V.iand dX11_mostMatched_42 ?_
      refine V.if_eq 66 dX11_mostMatched_43 (by decide) (fun c43 => ?_) (fun c43 => ?_)
      · skip
        rw [mxF, if_neg (by unfold pkB; rw [decide_eq_false (fun z => z c43)]; decide)] at hr
        refine V.iinc (v := 1) dX11_mostMatched_66 rfl (by decide) (by decide) rfl ?_
        refine V.goto 24 dX11_mostMatched_69 (by decide) ?_
        first
        | (refine V.weak [some (.ref b), some (.int (nI p)), some (.int u), some (.int (nI m)), some (.int (nI (x + 1)))] (by simp [leL, sto1, sto2, k2c, nI_1]; done) ?_; exact ihk (x + 1) m (by omega) hm hr)
        | (refine V.weak [some (.ref b), some (.int (nI p)), some (.int u), some (.int (nI (max m (1 + moN g j (p + 1) (u ||| bitM x))))), some (.int (nI (x + 1)))] (by simp [leL, sto1, sto2, k2c, nI_1]; done) ?_; exact ihk (x + 1) _ (by omega) (by have := moN_le g j (p + 1) (u ||| bitM x); omega) hr)
      · skip
        rw [mxF, if_pos (by unfold pkB; rw [decide_eq_true c43])] at hr
        refine V.iload_n dX11_mostMatched_46 rfl ?_
        refine V.iconst (v := 1) dX11_mostMatched_47 (by decide) ?_
        refine V.aload_n dX11_mostMatched_48 rfl ?_
        refine V.iload_n dX11_mostMatched_49 rfl ?_
        refine V.iconst (v := 1) dX11_mostMatched_50 (by decide) ?_
        refine V.iadd dX11_mostMatched_51 ?_
        refine V.eqi (y := nI (p + 1)) (by rw [nI_1]) ?_
        refine V.iload_n dX11_mostMatched_52 rfl ?_
        refine V.iconst (v := 1) dX11_mostMatched_53 (by decide) ?_
        refine V.iload dX11_mostMatched_54 rfl ?_
        refine V.ishl dX11_mostMatched_56 ?_
        refine V.ior dX11_mostMatched_57 ?_
        refine V.cS3 yoX11_mostMatched ml_X11_365 st_X11_mostMatched dX11_mostMatched_58 (Nat.le_of_ble_eq_true rfl) (by omega) ⟨Nat.le_refl _, Nat.le_refl _⟩ rfl (Nat.le_of_ble_eq_true rfl) (ih (d := d - 1) (p + 1) (u ||| bitM x) (by omega) (by omega)) (V.rdK ?_)
        refine V.iadd dX11_mostMatched_61 ?_
        refine V.eqi (y := nI (1 + moN g j (p + 1) (u ||| bitM x))) (nI_add 1 _) ?_
        refine V.mmax ml_X11_310 st_J9_max_7cf53 ini_J9 co_J9_max_7cf53 dX11_mostMatched_62 (by omega) (Nat.le_of_ble_eq_true rfl) ⟨Nat.le_refl _, Nat.le_refl _⟩ ?_
        refine V.eqi (y := nI (max m (1 + moN g j (p + 1) (u ||| bitM x)))) (nI_max (by omega) (by have := moN_le g j (p + 1) (u ||| bitM x); omega)) ?_
        refine V.istore_n dX11_mostMatched_65 (by decide) rfl ?_
        refine V.iinc (v := 1) dX11_mostMatched_66 rfl (by decide) (by decide) rfl ?_
        refine V.goto 24 dX11_mostMatched_69 (by decide) ?_
        first
        | (refine V.weak [some (.ref b), some (.int (nI p)), some (.int u), some (.int (nI m)), some (.int (nI (x + 1)))] (by simp [leL, sto1, sto2, k2c, nI_1]; done) ?_; exact ihk (x + 1) m (by omega) hm hr)
        | (refine V.weak [some (.ref b), some (.int (nI p)), some (.int u), some (.int (nI (max m (1 + moN g j (p + 1) (u ||| bitM x))))), some (.int (nI (x + 1)))] (by simp [leL, sto1, sto2, k2c, nI_1]; done) ?_; exact ihk (x + 1) _ (by omega) (by have := moN_le g j (p + 1) (u ||| bitM x); omega) hr)
set_option maxRecDepth 100000 in
set_option maxHeartbeats 1000000 in
theorem chosen_F {d n0 z : Nat} {κ : Kd} {h0 : Hp} (hd : 10 ≤ d) {s : St} {T T2 : Tx} {c g th uu F k pa tu rd tk : St} {p : Nat} {u : Int32} (hp6 : p < 6) : GV (IB z h0) MX11_lenderChosen (d, 0, 0, n0, κ) (mkF s T T2 c g th uu F k pa tu rd tk) 0 [some (.ref z), some (.int (nI p)), some (.int (u)), none, none] [] (gR (mkF s T T2 c g th uu F k pa tu rd tk) (.int (stV (s.2.1 14) (5 - p) p u))) := by
  refine GV.aload_n dX11_lenderChosen_0 rfl ?_
  refine GV.getf okX11 14 (fun h H => H.aown.1) fl_X11_80 dX11_lenderChosen_1 (by decide) rfl ?_
  refine GV.iload_n dX11_lenderChosen_4 rfl ?_
  refine GV.iload_n dX11_lenderChosen_5 rfl ?_
  refine GV.cS3 yoX11_mostMatched ml_X11_365 st_X11_mostMatched dX11_lenderChosen_6 (Nat.le_of_ble_eq_true rfl) (by omega) rfl (Nat.le_of_ble_eq_true rfl) (GV.rd (fun h H => most_V (C11_r14 H.aown) (5 - p + 1) (p) (u) (by omega) (by omega))) (GV.rdK ?_)
  refine GV.istore_n dX11_lenderChosen_9 (by decide) rfl ?_
  refine GV.iconst (v := nI 0) dX11_lenderChosen_10 (by decide) ?_
  refine GV.istore dX11_lenderChosen_11 (by decide) rfl ?_
  refine GV.weak [some (.ref z), some (.int (nI p)), some (.int u), some (.int (nI (moN (s.2.1 14) (5 - p + 1) p u))), some (.int (nI 0))] (by simp [leL, sto1, sto2, k2c]; first | done | rfl) ?_
  suffices hL : ∀ (kk x : Nat), x + kk = 6 → chF (s.2.1 14) (5 - p) p u (moN (s.2.1 14) (5 - p + 1) p u) kk x = stV (s.2.1 14) (5 - p) p u → GV (IB z h0) MX11_lenderChosen (d, 0, 0, n0, κ) (mkF s T T2 c g th uu F k pa tu rd tk) 13 [some (.ref z), some (.int (nI p)), some (.int u), some (.int (nI (moN (s.2.1 14) (5 - p + 1) p u))), some (.int (nI x))] [] (gR (mkF s T T2 c g th uu F k pa tu rd tk) (.int (stV (s.2.1 14) (5 - p) p u))) from hL 6 0 (by omega) rfl
  intro kk
  induction kk with
  | zero =>
    intro x hx hr
    have hx6 : x = 6 := by omega
    subst hx6
    refine GV.iload dX11_lenderChosen_13 rfl ?_
    refine GV.bipush (v := nI 6) dX11_lenderChosen_15 (by decide) ?_
    refine GV.icmp_ge 69 dX11_lenderChosen_17 (by decide) (fun _ => ?_) (fun z => absurd (nI_le (by omega) (by omega)) z)
    refine GV.bipush (v := (-2)) dX11_lenderChosen_69 (by decide) ?_
    refine GV.iret dX11_lenderChosen_71 rfl ?_
    exact ⟨by rw [← hr, chF], rfl⟩
  | succ kk ihk =>
    intro x hx hr
    refine GV.iload dX11_lenderChosen_13 rfl ?_
    refine GV.bipush (v := nI 6) dX11_lenderChosen_15 (by decide) ?_
    refine GV.icmp_ge 69 dX11_lenderChosen_17 (by decide) (fun z => absurd z (nI_ge (by omega) (by omega))) (fun _ => ?_)
    refine GV.aload_n dX11_lenderChosen_20 rfl ?_
    refine GV.getf okX11 14 (fun h H => H.aown.1) fl_X11_80 dX11_lenderChosen_21 (by decide) rfl ?_
    refine GV.iload_n dX11_lenderChosen_24 rfl ?_
    refine GV.ald (fun h H => C11_r14 H.aown) dX11_lenderChosen_25 (rfl) (by omega) (by decide) ?_
    refine GV.iload_n dX11_lenderChosen_26 rfl ?_
    refine GV.iconst (v := (-1)) dX11_lenderChosen_27 (by decide) ?_
    refine GV.ixor dX11_lenderChosen_28 ?_
    refine GV.iand dX11_lenderChosen_29 ?_
    refine GV.iload dX11_lenderChosen_30 rfl ?_
    refine GV.ishr dX11_lenderChosen_32 ?_
    refine GV.iconst (v := 1) dX11_lenderChosen_33 (by decide) ?_
    refine GV.iand dX11_lenderChosen_34 ?_
    refine GV.if_eq 63 dX11_lenderChosen_35 (by decide) (fun c35 => ?_) (fun c35 => ?_)
    · skip
      rw [chF, if_neg (fun z => by have z1 := z.1; unfold pkB at z1; rw [decide_eq_false (fun y => y c35)] at z1; exact absurd z1 (by decide))] at hr
      refine GV.iinc (v := 1) dX11_lenderChosen_63 rfl (by decide) (by decide) rfl ?_
      refine GV.goto 13 dX11_lenderChosen_66 (by decide) ?_
      refine GV.weak [some (.ref z), some (.int (nI p)), some (.int u), some (.int (nI (moN (s.2.1 14) (5 - p + 1) p u))), some (.int (nI (x + 1)))] (by simp [leL, sto1, sto2, k2c, nI_1]) ?_
      exact ihk (x + 1) (by omega) hr
    · skip
      have hpk : pkB (s.2.1 14) p u x = true := by unfold pkB; rw [decide_eq_true c35]
      refine GV.iconst (v := 1) dX11_lenderChosen_38 (by decide) ?_
      refine GV.aload_n dX11_lenderChosen_39 rfl ?_
      refine GV.getf okX11 14 (fun h H => H.aown.1) fl_X11_80 dX11_lenderChosen_40 (by decide) rfl ?_
      refine GV.iload_n dX11_lenderChosen_43 rfl ?_
      refine GV.iconst (v := 1) dX11_lenderChosen_44 (by decide) ?_
      refine GV.iadd dX11_lenderChosen_45 ?_
      refine GV.eqi (y := nI (p + 1)) (by rw [nI_1]) ?_
      refine GV.iload_n dX11_lenderChosen_46 rfl ?_
      refine GV.iconst (v := 1) dX11_lenderChosen_47 (by decide) ?_
      refine GV.iload dX11_lenderChosen_48 rfl ?_
      refine GV.ishl dX11_lenderChosen_50 ?_
      refine GV.ior dX11_lenderChosen_51 ?_
      refine GV.cS3 yoX11_mostMatched ml_X11_365 st_X11_mostMatched dX11_lenderChosen_52 (Nat.le_of_ble_eq_true rfl) (by omega) rfl (Nat.le_of_ble_eq_true rfl) (GV.rd (fun h H => most_V (C11_r14 H.aown) (5 - p) (p + 1) (u ||| bitM x) (by omega) (by omega))) (GV.rdK ?_)
      refine GV.iadd dX11_lenderChosen_55 ?_
      refine GV.eqi (y := nI (1 + moN (s.2.1 14) (5 - p) (p + 1) (u ||| bitM x))) (nI_add 1 _) ?_
      refine GV.iload_n dX11_lenderChosen_56 rfl ?_
      refine GV.icmp_ne 63 dX11_lenderChosen_57 (by decide) (fun c57 => ?_) (fun c57 => ?_)
      · skip
        rw [chF, if_neg (fun z => c57 (congrArg nI z.2))] at hr
        refine GV.iinc (v := 1) dX11_lenderChosen_63 rfl (by decide) (by decide) rfl ?_
        refine GV.goto 13 dX11_lenderChosen_66 (by decide) ?_
        refine GV.weak [some (.ref z), some (.int (nI p)), some (.int u), some (.int (nI (moN (s.2.1 14) (5 - p + 1) p u))), some (.int (nI (x + 1)))] (by simp [leL, sto1, sto2, k2c, nI_1]) ?_
        exact ihk (x + 1) (by omega) hr
      · skip
        have hmo : 1 + moN (s.2.1 14) (5 - p) (p + 1) (u ||| bitM x) = moN (s.2.1 14) (5 - p + 1) p u := nI_inj0 (by have := moN_le (s.2.1 14) (5 - p) (p + 1) (u ||| bitM x); omega) (by have := moN_le (s.2.1 14) (5 - p + 1) p u; omega) c57
        refine GV.iload dX11_lenderChosen_60 rfl ?_
        refine GV.iret dX11_lenderChosen_62 rfl ?_
        exact ⟨by rw [← hr, chF, if_pos ⟨hpk, hmo⟩], rfl⟩
set_option maxRecDepth 100000 in
set_option maxHeartbeats 1000000 in
theorem gather_F {d n0 z : Nat} {κ : Kd} {h0 : Hp} (hd : 3 ≤ d) {s : St} {T T2 : Tx} {c g th u F k pa tu rd tk : St} (hw : wfT T) (hp : c.1 0 = T.1.1 0) : GV (IB z h0) MX11_gatherLenders (d, 0, 0, n0, κ) (mkF s T T2 c g th u F k pa tu rd tk) 0 [some (.ref z), none, none] [] (fun v S' => v = none ∧ ∃ s' : St, S' = mkF s' T T2 c g th u F k pa tu rd tk ∧ (∀ q, q < 6 → s'.2.1 14 q = gLF T c q) ∧ frO s s') := by
  have h6 : nat (T.1.1 0) < 7 := hw.1.2
  refine GV.iconst (v := nI 0) dX11_gatherLenders_0 (by decide) ?_
  refine GV.istore_n dX11_gatherLenders_1 (by decide) rfl ?_
  suffices hL : ∀ (j i : Nat) (s2 : St), i + j = 6 → (∀ q, q < i → s2.2.1 14 q = gLF T c q) → frO s s2 → GV (IB z h0) MX11_gatherLenders (d, 0, 0, n0, κ) (mkF s2 T T2 c g th u F k pa tu rd tk) 2 [some (.ref z), some (.int (nI i)), none] [] (fun v S' => v = none ∧ ∃ s' : St, S' = mkF s' T T2 c g th u F k pa tu rd tk ∧ (∀ q, q < 6 → s'.2.1 14 q = gLF T c q) ∧ frO s s') from hL 6 0 s (by omega) (fun q hq => absurd hq (Nat.not_lt_zero q)) ⟨rfl, rfl, rfl⟩
  intro j
  induction j with
  | zero =>
    intro i s2 hij hv hf
    have hi6 : i = 6 := by omega
    subst hi6
    refine GV.iload_n dX11_gatherLenders_2 rfl ?_
    refine GV.bipush (v := nI 6) dX11_gatherLenders_3 (by decide) ?_
    refine GV.icmp_ge 72 dX11_gatherLenders_5 (by decide) (fun _ => ?_) (fun z => absurd (nI_le (by omega) (by omega)) z)
    refine GV.vret dX11_gatherLenders_72 rfl ?_
    exact ⟨rfl, s2, rfl, hv, hf⟩
  | succ j ih =>
    intro i s2 hij hv hf
    refine GV.iload_n dX11_gatherLenders_2 rfl ?_
    refine GV.bipush (v := nI 6) dX11_gatherLenders_3 (by decide) ?_
    refine GV.icmp_ge 72 dX11_gatherLenders_5 (by decide) (fun z => absurd z (nI_ge (by omega) (by omega))) (fun _ => ?_)
    refine GV.iload_n dX11_gatherLenders_8 rfl ?_
    refine GV.aload_n dX11_gatherLenders_9 rfl ?_
    refine GV.getf okX11 3 (fun h H => H.aown.1) fl_X11_25 dX11_gatherLenders_10 (by decide) rfl ?_
    refine GV.getf okX8 0 (fun h H => H.aT.1.1) fl_X11_194 dX11_gatherLenders_13 (by decide) rfl ?_
    refine GV.eqi (y := nI (nat (T.1.1 0))) hw.1.1 ?_
    refine GV.icmp_ge 31 dX11_gatherLenders_16 (by decide) (fun c16 => ?_) (fun c16 => ?_)
    · skip
      have c16b : ¬ i < nat (T.1.1 0) := fun z => nI_ge z (by omega) c16
      refine GV.iconst (v := 0) dX11_gatherLenders_31 (by decide) ?_
      refine GV.istore_n dX11_gatherLenders_32 (by decide) rfl ?_
      refine GV.aload_n dX11_gatherLenders_33 rfl ?_
      refine GV.getf okX11 14 (fun h H => H.aown.1) fl_X11_80 dX11_gatherLenders_34 (by decide) rfl ?_
      refine GV.iload_n dX11_gatherLenders_37 rfl ?_
      refine GV.iload_n dX11_gatherLenders_38 rfl ?_
      refine GV.if_eq 64 dX11_gatherLenders_39 (by decide) (fun _ => ?_) (fun z => absurd (rfl) z)
      refine GV.iconst (v := 0) dX11_gatherLenders_64 (by decide) ?_
      refine GV.ast (fun h H => C11_r14 H.aown) dX11_gatherLenders_65 (rfl) (by omega) (by decide) (fun h h' H e o => H.ws (isR.setA C11_ok H.aown C11_in14 (by decide) _ _ e o) rfl rfl (fun b hb => o b (by omega))) ?_
      refine GV.iinc (v := 1) dX11_gatherLenders_66 rfl (by decide) (by decide) rfl ?_
      refine GV.goto 2 dX11_gatherLenders_69 (by decide) ?_
      refine GV.weak [some (.ref z), some (.int (nI (i + 1))), none] (by simp [leL, sto1, sto2, k2c, nI_1]) ?_
      exact ih (i + 1) _ (by omega) (fun q hq => by
        by_cases e : q = i
        · subst e
          show upd (s2.2.1 14) q _ q = _
          unfold upd
          rw [if_pos rfl]
          unfold gLF
          first
          | (rw [if_neg (fun z => c16b z.1)]; done)
          | (rw [if_neg (fun z => by rw [bI_t c24] at z; exact absurd z.2 (by decide))]; done)
          | (rw [if_pos ⟨c16b, bI_f c24⟩]; done)
        · show upd (s2.2.1 14) i _ q = _
          rw [upd_ne e]
          exact hv q (by omega)) ⟨hf.1, hf.2.1, hf.2.2⟩
    · skip
      have c16b : i < nat (T.1.1 0) := Nat.not_le.mp fun z => c16 (nI_le z (by omega))
      refine GV.aload_n dX11_gatherLenders_19 rfl ?_
      refine GV.iload_n dX11_gatherLenders_20 rfl ?_
      refine GV.cV1 (ci := 11) yoX11_sees ml_X11_150 im_X11_sees se_X11_sees dX11_gatherLenders_21 rfl (fun h H => H.aown.1) (Nat.le_of_ble_eq_true rfl) (by omega) rfl (Nat.le_of_ble_eq_true rfl) (sees_F (by omega) (by omega) hw hp) (GV.rdK ?_)
      refine GV.if_ne 31 dX11_gatherLenders_24 (by decide) (fun c24 => ?_) (fun c24 => ?_)
      · skip
        refine GV.iconst (v := 0) dX11_gatherLenders_31 (by decide) ?_
        refine GV.istore_n dX11_gatherLenders_32 (by decide) rfl ?_
        refine GV.aload_n dX11_gatherLenders_33 rfl ?_
        refine GV.getf okX11 14 (fun h H => H.aown.1) fl_X11_80 dX11_gatherLenders_34 (by decide) rfl ?_
        refine GV.iload_n dX11_gatherLenders_37 rfl ?_
        refine GV.iload_n dX11_gatherLenders_38 rfl ?_
        refine GV.if_eq 64 dX11_gatherLenders_39 (by decide) (fun _ => ?_) (fun z => absurd (rfl) z)
        refine GV.iconst (v := 0) dX11_gatherLenders_64 (by decide) ?_
        refine GV.ast (fun h H => C11_r14 H.aown) dX11_gatherLenders_65 (rfl) (by omega) (by decide) (fun h h' H e o => H.ws (isR.setA C11_ok H.aown C11_in14 (by decide) _ _ e o) rfl rfl (fun b hb => o b (by omega))) ?_
        refine GV.iinc (v := 1) dX11_gatherLenders_66 rfl (by decide) (by decide) rfl ?_
        refine GV.goto 2 dX11_gatherLenders_69 (by decide) ?_
        refine GV.weak [some (.ref z), some (.int (nI (i + 1))), none] (by simp [leL, sto1, sto2, k2c, nI_1]) ?_
        exact ih (i + 1) _ (by omega) (fun q hq => by
          by_cases e : q = i
          · subst e
            show upd (s2.2.1 14) q _ q = _
            unfold upd
            rw [if_pos rfl]
            unfold gLF
            first
            | (rw [if_neg (fun z => c16b z.1)]; done)
            | (rw [if_neg (fun z => by rw [bI_t c24] at z; exact absurd z.2 (by decide))]; done)
            | (rw [if_pos ⟨c16b, bI_f c24⟩]; done)
          · show upd (s2.2.1 14) i _ q = _
            rw [upd_ne e]
            exact hv q (by omega)) ⟨hf.1, hf.2.1, hf.2.2⟩
      · skip
        refine GV.iconst (v := 1) dX11_gatherLenders_27 (by decide) ?_
        refine GV.goto 32 dX11_gatherLenders_28 (by decide) ?_
        refine GV.istore_n dX11_gatherLenders_32 (by decide) rfl ?_
        refine GV.aload_n dX11_gatherLenders_33 rfl ?_
        refine GV.getf okX11 14 (fun h H => H.aown.1) fl_X11_80 dX11_gatherLenders_34 (by decide) rfl ?_
        refine GV.iload_n dX11_gatherLenders_37 rfl ?_
        refine GV.iload_n dX11_gatherLenders_38 rfl ?_
        refine GV.if_eq 64 dX11_gatherLenders_39 (by decide) (fun z => absurd z (show ¬ (1 : Int32) = 0 by decide)) (fun _ => ?_)
        refine GV.aload_n dX11_gatherLenders_42 rfl ?_
        refine GV.getf okX11 3 (fun h H => H.aown.1) fl_X11_25 dX11_gatherLenders_43 (by decide) rfl ?_
        refine GV.getf okX8 4 (fun h H => H.aT.1.1) fl_X11_171 dX11_gatherLenders_46 (by decide) rfl ?_
        refine GV.iload_n dX11_gatherLenders_49 rfl ?_
        refine GV.ald (fun h H => C8_r4 H.aT.1) dX11_gatherLenders_50 (rfl) (by omega) (by decide) ?_
        refine GV.aload_n dX11_gatherLenders_51 rfl ?_
        refine GV.getf okX11 5 (fun h H => H.aown.1) fl_X11_35 dX11_gatherLenders_52 (by decide) rfl ?_
        refine GV.cV0 (ci := 0) yoX0_outMen ml_X11_350 im_X0_outMen se_X0_outMen dX11_gatherLenders_55 rfl (fun h H => H.ac.1) (Nat.le_of_ble_eq_true rfl) (by omega) rfl (Nat.le_of_ble_eq_true rfl) (GV.rd (fun h H => outMen_V (by omega) H.ac (sees_litM hp hw).1 (sees_litM hp hw).2)) (GV.rdK ?_)
        refine GV.iconst (v := (-1)) dX11_gatherLenders_58 (by decide) ?_
        refine GV.ixor dX11_gatherLenders_59 ?_
        refine GV.iand dX11_gatherLenders_60 ?_
        refine GV.goto 65 dX11_gatherLenders_61 (by decide) ?_
        refine GV.ast (fun h H => C11_r14 H.aown) dX11_gatherLenders_65 (rfl) (by omega) (by decide) (fun h h' H e o => H.ws (isR.setA C11_ok H.aown C11_in14 (by decide) _ _ e o) rfl rfl (fun b hb => o b (by omega))) ?_
        refine GV.iinc (v := 1) dX11_gatherLenders_66 rfl (by decide) (by decide) rfl ?_
        refine GV.goto 2 dX11_gatherLenders_69 (by decide) ?_
        refine GV.weak [some (.ref z), some (.int (nI (i + 1))), none] (by simp [leL, sto1, sto2, k2c, nI_1]) ?_
        exact ih (i + 1) _ (by omega) (fun q hq => by
          by_cases e : q = i
          · subst e
            show upd (s2.2.1 14) q _ q = _
            unfold upd
            rw [if_pos rfl]
            unfold gLF
            first
            | (rw [if_neg (fun z => c16b z.1)]; done)
            | (rw [if_neg (fun z => by rw [bI_t c24] at z; exact absurd z.2 (by decide))]; done)
            | (rw [if_pos ⟨c16b, bI_f c24⟩]; done)
          · show upd (s2.2.1 14) i _ q = _
            rw [upd_ne e]
            exact hv q (by omega)) ⟨hf.1, hf.2.1, hf.2.2⟩
set_option maxRecDepth 100000 in
set_option maxHeartbeats 1000000 in
theorem match_F {d n0 z : Nat} {κ : Kd} {h0 : Hp} (hd : 12 ≤ d) {s : St} {T T2 : Tx} {c g th u F k pa tu rd tk : St} {x : Int32} {f : Nat → Nat → Int32} (hT : relT T f) (hw : wfT T) (hp : c.1 0 = T.1.1 0) : GV (IB z h0) MX11_match (d, 0, 0, n0, κ) (mkF s T T2 c g th u F k pa tu rd tk) 0 [some (.ref z), some (.int (x)), none, none, none] [] (fun v S' => v = some (.int (aMatch T c x)) ∧ ∃ s' : St, S' = mkF s' T T2 c g th u F k pa tu rd tk ∧ frO s s') := by
  refine GV.iload_n dX11_match_0 rfl ?_
  refine GV.if_lt 10 dX11_match_1 (by decide) (fun c1 => ?_) (fun c1 => ?_)
  · skip
    have hA : aMatch T c x = -1 := by rw [aMatch, if_neg (fun z => z.1 c1)]
    refine GV.iconst (v := (-1)) dX11_match_10 (by decide) ?_
    refine GV.iret dX11_match_11 rfl ?_
    exact ⟨by rw [hA], s, rfl, rfl, rfl, rfl⟩
  · skip
    refine GV.iload_n dX11_match_4 rfl ?_
    refine GV.bipush (v := 6) dX11_match_5 (by decide) ?_
    refine GV.icmp_le 12 dX11_match_7 (by decide) (fun c7 => ?_) (fun c7 => ?_)
    · skip
      have h6 : ¬ 6 < x := Int32.not_lt.mpr c7
      refine GV.aload_n dX11_match_12 rfl ?_
      refine GV.cV0 (ci := 11) yoX11_gatherLenders ml_X11_362 im_X11_gatherLenders se_X11_gatherLenders dX11_match_13 rfl (fun h H => H.aown.1) (Nat.le_of_ble_eq_true rfl) (by omega) rfl (Nat.le_of_ble_eq_true rfl) (gather_F (by omega) hw hp) ?_
      rintro _ _ ⟨rfl, s1, rfl, hg, hf⟩
      refine GV.iload_n dX11_match_16 rfl ?_
      refine GV.bipush (v := 6) dX11_match_17 (by decide) ?_
      refine GV.icmp_ne 32 dX11_match_19 (by decide) (fun c19 => ?_) (fun c19 => ?_)
      · skip
        obtain ⟨q, hq31, rfl⟩ := nI_of c1
        have hq6 : q < 6 := by
          have h1 : q ≤ 6 := Nat.not_lt.mp fun z => h6 (nI_lt (a := 6) z hq31)
          have h2 : ¬ q = 6 := fun z => c19 (by rw [z]; rfl)
          omega
        refine GV.iconst (v := 0) dX11_match_32 (by decide) ?_
        refine GV.istore_n dX11_match_33 (by decide) rfl ?_
        refine GV.iconst (v := nI 0) dX11_match_34 (by decide) ?_
        refine GV.istore_n dX11_match_35 (by decide) rfl ?_
        refine GV.weak [some (.ref z), some (.int (nI q)), some (.int (uP (s1.2.1 14) 0)), some (.int (nI 0)), none] (by simp [leL, sto1, sto2, k2c]; first | done | rfl | exact ⟨rfl, rfl⟩) ?_
        suffices hL : ∀ (j i : Nat), i + j = q → GV (IB z h0) MX11_match (d, 0, 0, n0, κ) (mkF s1 T T2 c g th u F k pa tu rd tk) 36 [some (.ref z), some (.int (nI q)), some (.int (uP (s1.2.1 14) i)), some (.int (nI i)), none] [] (fun v S' => v = some (.int (aMatch T c (nI q))) ∧ ∃ s' : St, S' = mkF s' T T2 c g th u F k pa tu rd tk ∧ frO s s') from hL q 0 (by omega)
        intro j
        induction j with
        | zero =>
          intro i hij
          have hin : i = q := by omega
          subst hin
          refine GV.iload_n dX11_match_36 rfl ?_
          refine GV.iload_n dX11_match_37 rfl ?_
          refine GV.icmp_ge 71 dX11_match_38 (by decide) (fun _ => ?_) (fun z => absurd (nI_le (by omega) (by omega)) z)
          refine GV.aload_n dX11_match_71 rfl ?_
          refine GV.iload_n dX11_match_72 rfl ?_
          refine GV.iload_n dX11_match_73 rfl ?_
          refine GV.cV2 (ci := 11) yoX11_lenderChosen ml_X11_369 im_X11_lenderChosen se_X11_lenderChosen dX11_match_74 rfl (fun h H => H.aown.1) (Nat.le_of_ble_eq_true rfl) (by omega) rfl (Nat.le_of_ble_eq_true rfl) (chosen_F (s := s1) (by omega) (p := i) (by omega)) (GV.rdK ?_)
          refine GV.iret dX11_match_77 rfl ?_
          exact ⟨by rw [match_one hT hw hg (by omega)], s1, rfl, hf⟩
        | succ j ih =>
          intro i hij
          refine GV.iload_n dX11_match_36 rfl ?_
          refine GV.iload_n dX11_match_37 rfl ?_
          refine GV.icmp_ge 71 dX11_match_38 (by decide) (fun z => absurd z (nI_ge (by omega) (by omega))) (fun _ => ?_)
          refine GV.aload_n dX11_match_41 rfl ?_
          refine GV.iload_n dX11_match_42 rfl ?_
          refine GV.iload_n dX11_match_43 rfl ?_
          refine GV.cV2 (ci := 11) yoX11_lenderChosen ml_X11_369 im_X11_lenderChosen se_X11_lenderChosen dX11_match_44 rfl (fun h H => H.aown.1) (Nat.le_of_ble_eq_true rfl) (by omega) rfl (Nat.le_of_ble_eq_true rfl) (chosen_F (s := s1) (by omega) (p := i) (by omega)) (GV.rdK ?_)
          refine GV.istore dX11_match_47 (by decide) rfl ?_
          refine GV.iload_n dX11_match_49 rfl ?_
          refine GV.iload dX11_match_50 rfl ?_
          refine GV.if_ge 59 dX11_match_52 (by decide) (fun c52 => ?_) (fun c52 => ?_)
          · skip
            have hst : uP (s1.2.1 14) (i + 1) = uP (s1.2.1 14) i ||| (1 : Int32) <<< (stV (s1.2.1 14) (5 - i) i (uP (s1.2.1 14) i) &&& 31) := by rw [uP, stU, if_neg (Int32.not_lt.mpr c52)]
            refine GV.iconst (v := 1) dX11_match_59 (by decide) ?_
            refine GV.iload dX11_match_60 rfl ?_
            refine GV.ishl dX11_match_62 ?_
            refine GV.ior dX11_match_63 ?_
            refine GV.istore_n dX11_match_64 (by decide) rfl ?_
            refine GV.iinc (v := 1) dX11_match_65 rfl (by decide) (by decide) rfl ?_
            refine GV.goto 36 dX11_match_68 (by decide) ?_
            refine GV.weak [some (.ref z), some (.int (nI q)), some (.int (uP (s1.2.1 14) (i + 1))), some (.int (nI (i + 1))), none] (by simp [leL, sto1, sto2, k2c, nI_1, hst]) ?_
            exact ih (i + 1) (by omega)
          · skip
            have hst : uP (s1.2.1 14) (i + 1) = uP (s1.2.1 14) i := by rw [uP, stU, if_pos (Int32.not_le.mp c52)]
            refine GV.iconst (v := 0) dX11_match_55 (by decide) ?_
            refine GV.goto 63 dX11_match_56 (by decide) ?_
            refine GV.ior dX11_match_63 ?_
            refine GV.istore_n dX11_match_64 (by decide) rfl ?_
            refine GV.iinc (v := 1) dX11_match_65 rfl (by decide) (by decide) rfl ?_
            refine GV.goto 36 dX11_match_68 (by decide) ?_
            refine GV.weak [some (.ref z), some (.int (nI q)), some (.int (uP (s1.2.1 14) (i + 1))), some (.int (nI (i + 1))), none] (by simp [leL, sto1, sto2, k2c, nI_1, hst]) ?_
            exact ih (i + 1) (by omega)
      · skip
        have c19 : x = 6 := c19
        subst c19
        refine GV.aload_n dX11_match_22 rfl ?_
        refine GV.getf okX11 14 (fun h H => H.aown.1) fl_X11_80 dX11_match_23 (by decide) rfl ?_
        refine GV.iconst (v := nI 0) dX11_match_26 (by decide) ?_
        refine GV.iconst (v := 0) dX11_match_27 (by decide) ?_
        refine GV.cS3 yoX11_mostMatched ml_X11_365 st_X11_mostMatched dX11_match_28 (Nat.le_of_ble_eq_true rfl) (by omega) rfl (Nat.le_of_ble_eq_true rfl) (GV.rd (fun h H => most_V (C11_r14 H.aown) 6 0 0 (by omega) (by omega))) (GV.rdK ?_)
        refine GV.iret dX11_match_31 rfl ?_
        exact ⟨by rw [match_all hT hw hg], s1, rfl, hf⟩
    · skip
      have h6 : 6 < x := Int32.not_le.mp c7
      have hA : aMatch T c x = -1 := by rw [aMatch, if_neg (fun z => z.2 h6)]
      refine GV.iconst (v := (-1)) dX11_match_10 (by decide) ?_
      refine GV.iret dX11_match_11 rfl ?_
      exact ⟨by rw [hA], s, rfl, rfl, rfl, rfl⟩
