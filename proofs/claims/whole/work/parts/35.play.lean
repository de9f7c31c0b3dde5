/-! Turns: GAME, all lengths -/
set_option maxRecDepth 100000 in
set_option maxHeartbeats 2000000 in
theorem playIn_V {d n0 : Nat} {κ : Kd} (hd : 3 ≤ d) {h : Hp} {a l n : Nat} {x : Int64} {first : Int32} {g o1 o2 : Nat → Int32} {P : Option Value → Hp → Prop} (hl : l ≤ 60) (hn : n + 1 ≤ l) (e1 : ∀ k, k + n ≤ l → o1 k = (rowsF g n).1 k) (e2 : ∀ k, 1 ≤ n → k + (n - 1) ≤ l → o2 k = (rowsF g n).2 k)
    (kk : ∀ (h3 : Hp) (nw : Nat → Int32) (p : Int32 × Int32) (fr : Nat), isG h3 a g nw o1 o2 p → (∀ b : Nat, (b < a ∨ a + 5 ≤ b) → h3 b = h b) → fr + (n + 1) = l + 1 → (∀ k, k < fr → nw k = (rowsF g (n + 1)).1 k) → (fr = 0 ∨ p = settleP g o1 o2 (fr - 1) (n + 1)) → V MX9_play (d, 0, 0, n0, κ) 0 0 h3 173 [some (.ref a), some (.long (x)), none, some (.int (first)), some (.int (nI l)), some (.int (nI (n + 1))), some (.int (nI fr))] [] P) :
    ∀ (c fr : Nat) (h2 : Hp) (nw : Nat → Int32) (p : Int32 × Int32), fr + c + (n + 1) = l + 1 → isG h2 a g nw o1 o2 p → (∀ b : Nat, (b < a ∨ a + 5 ≤ b) → h2 b = h b) → (∀ k, k < fr → nw k = (rowsF g (n + 1)).1 k) → (fr = 0 ∨ p = settleP g o1 o2 (fr - 1) (n + 1)) → V MX9_play (d, 0, 0, n0, κ) 0 0 h2 128 [some (.ref a), some (.long (x)), none, some (.int (first)), some (.int (nI l)), some (.int (nI (n + 1))), some (.int (nI fr))] [] P := by
  intro c
  induction c with
  | zero =>
    intro fr h2 nw p hc HG hfr hrow hp
    obtain ⟨s, H, hg, hnw, ho1, ho2, hm, hv⟩ := id HG
    refine V.iload dX9_play_128 rfl ?_
    refine V.iload dX9_play_130 rfl ?_
    refine V.iadd dX9_play_132 ?_
    refine V.iload dX9_play_133 rfl ?_
    refine V.icmp_gt 173 dX9_play_135 (by decide) (fun _ => ?_) (fun z => absurd (by rw [nI_add]; exact nI_lt (by omega) (by omega)) z)
    exact kk _ _ _ fr HG hfr (by omega) hrow hp
  | succ c ih =>
    intro fr h2 nw p hc HG hfr hrow hp
    obtain ⟨s, H, hg, hnw, ho1, ho2, hm, hv⟩ := id HG
    have hle : fr + (n + 1) ≤ l := by omega
    have hval : (settleP g o1 o2 fr (n + 1)).1 = (rowsF g (n + 1)).1 fr := by
      rw [rowsF]
      exact congrArg Prod.fst (settle_congr hle (by omega) (fun k hk => e1 k (by omega)) (fun k h2 hk => e2 k (by omega) (by omega)))
    have hrow2 : ∀ k, k < fr + 1 → upd nw fr (settleP g o1 o2 fr (n + 1)).1 k = (rowsF g (n + 1)).1 k := by
      intro k hk
      by_cases q : k = fr
      · rw [q, show upd nw fr (settleP g o1 o2 fr (n + 1)).1 fr = (settleP g o1 o2 fr (n + 1)).1 from by simp [upd]]
        exact hval
      · rw [show upd nw fr (settleP g o1 o2 fr (n + 1)).1 k = nw k from by simp [upd, q]]
        exact hrow k (by omega)
    refine V.iload dX9_play_128 rfl ?_
    refine V.iload dX9_play_130 rfl ?_
    refine V.iadd dX9_play_132 ?_
    refine V.iload dX9_play_133 rfl ?_
    refine V.icmp_gt 173 dX9_play_135 (by decide) (fun z => absurd z (by rw [nI_add]; exact nI_nlt hle (by omega))) (fun _ => ?_)
    refine V.iload dX9_play_138 rfl ?_
    refine V.iload dX9_play_140 rfl ?_
    refine V.iadd dX9_play_142 ?_
    refine V.bipush (v := 60) dX9_play_143 (by decide) ?_
    refine V.icmp_gt 173 dX9_play_145 (by decide) (fun z => absurd z (by rw [nI_add]; exact fun z => absurd ((nI_ltI (by decide) (by omega)).mp (show nI 60 < nI (fr + (n + 1)) from z)) (by omega))) (fun _ => ?_)
    refine V.aload_n dX9_play_148 rfl ?_
    refine V.iload dX9_play_149 rfl ?_
    refine V.iload dX9_play_151 rfl ?_
    refine V.cV2 (ci := 9) yoX9_settle ml_X9_43 im_X9_settle se_X9_settle dX9_play_153 rfl H.1 (Nat.le_of_ble_eq_true rfl) (by omega) ⟨Nat.le_refl _, Nat.le_refl _⟩ rfl (Nat.le_of_ble_eq_true rfl) (settle_V (ln := n + 1) (by omega) HG (by omega) (by omega)) ?_
    rintro _ h1 ⟨rfl, HG, oh1⟩
    obtain ⟨sh1, H, hg, hnw, ho1, ho2, hm, hv⟩ := id HG
    have hfr : ∀ b : Nat, (b < a ∨ a + 5 ≤ b) → h1 b = h b := fun b hb => (oh1 b (by omega)).trans (hfr b hb)
    refine V.aload_n dX9_play_156 rfl ?_
    refine V.getf okX9 3 fl_X9_15 dX9_play_157 (by decide) H.1 rfl ?_
    refine V.iload dX9_play_160 rfl ?_
    refine V.aload_n dX9_play_162 rfl ?_
    refine V.getf okX9 0 fl_X9_24 dX9_play_163 (by decide) H.1 rfl ?_
    rw [hm]
    refine V.iastH dX9_play_166 (C9_r3 H) (rfl) (by omega) (by decide) (fun h2 eh2 oh2 => ?_)
    have H := isR.setA C9_ok H C9_in3 (by decide) _ _ eh2 oh2
    have hfr : ∀ b : Nat, (b < a ∨ a + 5 ≤ b) → h2 b = h b := fun b hb => (oh2 b (by omega)).trans (hfr b hb)
    refine V.iinc (v := 1) dX9_play_167 rfl (by decide) (by decide) rfl ?_
    refine V.goto 128 dX9_play_170 (by decide) ?_
    refine V.weak [some (.ref a), some (.long (x)), none, some (.int (first)), some (.int (nI l)), some (.int (nI (n + 1))), some (.int (nI (fr + 1)))] (by simp [leL, sto1, sto2, k2c, nI_1]) ?_
    exact ih (fr + 1) h2 (upd nw fr (settleP g o1 o2 fr (n + 1)).1) (settleP g o1 o2 fr (n + 1)) (by omega) ⟨_, H, hg, by show upd (sh1.2.1 3) fr _ = _; rw [hnw], ho1, ho2, hm, hv⟩ hfr hrow2 (Or.inr rfl)
theorem settle_congrg {g g2 o1 o2 : Nat → Int32} {fr ln l : Nat} (hl : fr + ln ≤ l) (h1 : 1 ≤ ln) (e : ∀ k, k < l → g k = g2 k) : settleP g o1 o2 fr ln = settleP g2 o1 o2 fr ln := by
  unfold settleP
  simp only
  rw [e fr (by omega), e (fr + ln - 1) (by omega)]
  by_cases h : ln ≤ 1
  · rw [if_pos h, if_pos h]
    simp only [if_pos h]
  · rw [e (fr + 1) (by omega), e (fr + ln - 1 - 1) (by omega)]
theorem rows_congr {g g2 : Nat → Int32} {l : Nat} (e : ∀ k, k < l → g k = g2 k) : ∀ n, (∀ k, k + n ≤ l → (rowsF g n).1 k = (rowsF g2 n).1 k) ∧ (∀ k, 1 ≤ n → k + (n - 1) ≤ l → (rowsF g n).2 k = (rowsF g2 n).2 k) := by
  intro n
  induction n with
  | zero => exact ⟨fun _ _ => rfl, fun _ _ _ => rfl⟩
  | succ n ih =>
    refine ⟨fun k hk => ?_, fun k _ hk => by rw [rowsF, rowsF]; exact ih.1 k (by omega)⟩
    rw [rowsF, rowsF]
    show (settleP g (rowsF g n).1 (rowsF g n).2 k (n + 1)).1 = (settleP g2 (rowsF g2 n).1 (rowsF g2 n).2 k (n + 1)).1
    rw [settle_congrg (g2 := g2) hk (by omega) e, settle_congr (q1 := (rowsF g2 n).1) (q2 := (rowsF g2 n).2) hk (by omega) (fun j hj => ih.1 j (by omega)) (fun j h2 hj => ih.2 j (by omega) (by omega))]
theorem game_congr {g g2 : Nat → Int32} {l : Nat} (e : ∀ k, k < l → g k = g2 k) : gameP g l = gameP g2 l := by
  cases l with
  | zero => rfl
  | succ n =>
    have ih := rows_congr e n
    rw [gameP, gameP, settle_congrg (g2 := g2) (by omega) (by omega) e, settle_congr (q1 := (rowsF g2 n).1) (q2 := (rowsF g2 n).2) (Nat.le_of_eq (Nat.zero_add _)) (by omega) (fun j hj => ih.1 j (by omega)) (fun j h2 hj => ih.2 j (by omega) (by omega))]
set_option maxRecDepth 100000 in
set_option maxHeartbeats 2000000 in
theorem playOut_V {d n0 : Nat} {κ : Kd} (hd : 4 ≤ d) {h : Hp} {a l : Nat} {x : Int64} {first : Int32} {g : Nat → Int32} (hl : l ≤ 60) (he : ∀ k, k < l → g k = gainF x first l k) : ∀ (c n : Nat) (h2 : Hp) (nw o1 o2 : Nat → Int32) (p : Int32 × Int32), n + c = l → isG h2 a g nw o1 o2 p → (∀ b : Nat, (b < a ∨ a + 5 ≤ b) → h2 b = h b) → (∀ k, k + n ≤ l → nw k = (rowsF g n).1 k) → (∀ k, 1 ≤ n → k + (n - 1) ≤ l → o1 k = (rowsF g n).2 k) → (n = l → p = gameP g l) → V MX9_play (d, 0, 0, n0, κ) 0 0 h2 75 [some (.ref a), some (.long (x)), none, some (.int (first)), some (.int (nI l)), some (.int (nI (n + 1))), none] [] (fun v h' => v = none ∧ (∃ (g2 w q1 q2 : Nat → Int32), isG h' a g2 w q1 q2 (gameP (gainF x first l) l)) ∧ ∀ b : Nat, (b < a ∨ a + 5 ≤ b) → h' b = h b) := by
  intro c
  induction c with
  | zero =>
    intro n h2 nw o1 o2 p hc HG hfr hr1 hr2 hp
    obtain ⟨s, H, hg, hnw, ho1, ho2, hm, hv⟩ := id HG
    refine V.iload dX9_play_75 rfl ?_
    refine V.iload dX9_play_77 rfl ?_
    refine V.icmp_gt 179 dX9_play_79 (by decide) (fun _ => ?_) (fun z => absurd (nI_lt (by omega) (by omega)) z)
    refine V.vret dX9_play_179 rfl ?_
    exact ⟨rfl, ⟨_, _, _, _, by rw [← game_congr he, ← hp (by omega)]; exact HG⟩, hfr⟩
  | succ c ih =>
    intro n h2 nw o1 o2 p hc HG hfr hr1 hr2 hp
    obtain ⟨s, H, hg, hnw, ho1, ho2, hm, hv⟩ := id HG
    have hpz : ∀ (p3 : Int32 × Int32) (fr : Nat) (nw3 : Nat → Int32), fr + (n + 1) = l + 1 → (fr = 0 ∨ p3 = settleP g nw o1 (fr - 1) (n + 1)) → n + 1 = l → p3 = gameP g l := by
      intro p3 fr nw3 hf h3 z
      rcases h3 with h3 | h3
      · omega
      · rw [h3, ← z, gameP, show fr - 1 = 0 by omega]
        exact settle_congr (l := l) (by omega) (by omega) (fun k hk => hr1 k (by omega)) (fun k h2 hk => hr2 k (by omega) (by omega))
    refine V.iload dX9_play_75 rfl ?_
    refine V.iload dX9_play_77 rfl ?_
    refine V.icmp_gt 179 dX9_play_79 (by decide) (fun z => absurd z (nI_nlt (by omega) (by omega))) (fun _ => ?_)
    refine V.iload dX9_play_82 rfl ?_
    refine V.bipush (v := 60) dX9_play_84 (by decide) ?_
    refine V.icmp_gt 179 dX9_play_86 (by decide) (fun z => absurd z (fun z => absurd ((nI_ltI (by decide) (by omega)).mp (show nI 60 < nI (n + 1) from z)) (by omega))) (fun _ => ?_)
    refine V.aload_n dX9_play_89 rfl ?_
    refine V.getf okX9 4 fl_X9_18 dX9_play_90 (by decide) H.1 rfl ?_
    refine V.iconst (v := 0) dX9_play_93 (by decide) ?_
    refine V.aload_n dX9_play_94 rfl ?_
    refine V.getf okX9 5 fl_X9_21 dX9_play_95 (by decide) H.1 rfl ?_
    refine V.iconst (v := 0) dX9_play_98 (by decide) ?_
    refine V.aload_n dX9_play_99 rfl ?_
    refine V.getf okX9 5 fl_X9_21 dX9_play_100 (by decide) H.1 rfl ?_
    refine V.alen (v := nI 62) dX9_play_103 (C9_r5 H) (by decide) rfl ?_
    refine V.copyIF ml_X9_37 dX9_play_104 (C9_r4 H) (C9_r5 H) rfl rfl rfl (by decide) (by omega) (Nat.le_of_ble_eq_true rfl) (fun h1 eh1 oh1 => ?_)
    have H := isR.setAR C9_ok H C9_in5 (by decide) _ eh1 oh1
    have hfr : ∀ b : Nat, (b < a ∨ a + 5 ≤ b) → h1 b = h b := fun b hb => (oh1 b (by omega)).trans (hfr b hb)
    refine V.aload_n dX9_play_107 rfl ?_
    refine V.getf okX9 3 fl_X9_15 dX9_play_108 (by decide) H.1 rfl ?_
    refine V.iconst (v := 0) dX9_play_111 (by decide) ?_
    refine V.aload_n dX9_play_112 rfl ?_
    refine V.getf okX9 4 fl_X9_18 dX9_play_113 (by decide) H.1 rfl ?_
    refine V.iconst (v := 0) dX9_play_116 (by decide) ?_
    refine V.aload_n dX9_play_117 rfl ?_
    refine V.getf okX9 4 fl_X9_18 dX9_play_118 (by decide) H.1 rfl ?_
    refine V.alen (v := nI 62) dX9_play_121 (C9_r4 H) (by decide) rfl ?_
    refine V.copyIF ml_X9_37 dX9_play_122 (C9_r3 H) (C9_r4 H) rfl rfl rfl (by decide) (by omega) (Nat.le_of_ble_eq_true rfl) (fun h2 eh2 oh2 => ?_)
    have H := isR.setAR C9_ok H C9_in4 (by decide) _ eh2 oh2
    have hfr : ∀ b : Nat, (b < a ∨ a + 5 ≤ b) → h2 b = h b := fun b hb => (oh2 b (by omega)).trans (hfr b hb)
    refine V.iconst (v := nI 0) dX9_play_125 (by decide) ?_
    refine V.istore dX9_play_126 (by decide) rfl ?_
    refine playIn_V (by omega) (o1 := nw) (o2 := o1) hl (by omega) hr1 hr2 ?_ (l - n) 0 h2 nw p (by omega) ⟨_, H, hg, hnw, hnw, ho1, hm, hv⟩ hfr (fun k hk => absurd hk (Nat.not_lt_zero k)) (Or.inl rfl)
    intro h3 nw3 p3 fr HG3 hfr3 hfl hrow3 hp3
    refine V.iinc (v := 1) dX9_play_173 rfl (by decide) (by decide) rfl ?_
    refine V.goto 75 dX9_play_176 (by decide) ?_
    refine V.weak [some (.ref a), some (.long (x)), none, some (.int (first)), some (.int (nI l)), some (.int (nI (n + 1 + 1))), none] (by simp [leL, sto1, sto2, k2c, nI_1]) ?_
    exact ih (n + 1) h3 nw3 nw o1 p3 (by omega) HG3 hfr3 (fun k hk => hrow3 k (by omega)) (fun k _ hk => by rw [rowsF]; exact hr1 k (by omega)) (fun z => hpz p3 fr nw3 hfl hp3 z)
theorem gain_upd {f F : Nat → Int32} {i : Nat} {v : Int32} (h : ∀ k, k < i → f k = F k) (e : F i = v) : ∀ k, k < i + 1 → upd f i v k = F k := by
  intro k hk
  by_cases q : k = i
  · rw [q, e]
    simp [upd]
  · rw [show upd f i v k = f k from by simp [upd, q]]
    exact h k (by omega)
set_option maxRecDepth 100000 in
set_option maxHeartbeats 2000000 in
theorem playGain_V {d n0 : Nat} {κ : Kd} (hd : 5 ≤ d) {h : Hp} {a l : Nat} {x : Int64} {first : Int32} (hl : l ≤ 60) : ∀ (c i : Nat) (h2 : Hp), i + c = 60 → (∃ s : St, isR C9 h2 a s ∧ s.1 0 = 0 ∧ s.1 1 = 0 ∧ (∀ k, s.2.1 3 k = 0) ∧ (∀ k, k < i → s.2.1 2 k = gainF x first l k)) → (∀ b : Nat, (b < a ∨ a + 5 ≤ b) → h2 b = h b) → V MX9_play (d, 0, 0, n0, κ) 0 0 h2 29 [some (.ref a), some (.long (x)), none, some (.int (first)), some (.int (nI l)), some (.int (nI i)), none] [] (fun v h' => v = none ∧ (∃ (g2 w q1 q2 : Nat → Int32), isG h' a g2 w q1 q2 (gameP (gainF x first l) l)) ∧ ∀ b : Nat, (b < a ∨ a + 5 ≤ b) → h' b = h b) := by
  intro c
  induction c with
  | zero =>
    intro i h2 hc HS hfr
    obtain ⟨s, H, hm, hv, hz, hgs⟩ := HS
    refine V.iload dX9_play_29 rfl ?_
    refine V.aload_n dX9_play_31 rfl ?_
    refine V.getf okX9 2 fl_X9_9 dX9_play_32 (by decide) H.1 rfl ?_
    refine V.alen (v := nI 60) dX9_play_35 (C9_r2 H) (by decide) rfl ?_
    refine V.icmp_ge 72 dX9_play_36 (by decide) (fun _ => ?_) (fun z => absurd (by exact nI_le (by omega) (by omega)) z)
    refine V.iconst (v := nI 1) dX9_play_72 (by decide) ?_
    refine V.istore dX9_play_73 (by decide) rfl ?_
    refine V.weak [some (.ref a), some (.long (x)), none, some (.int (first)), some (.int (nI l)), some (.int (nI (0 + 1))), none] (by simp [leL, sto1, sto2, k2c]) ?_
    exact playOut_V (by omega) hl (g := s.2.1 2) (fun k hk => hgs k (by omega)) l 0 h2 (s.2.1 3) (s.2.1 4) (s.2.1 5) (0, 0) (by omega) ⟨_, H, rfl, rfl, rfl, rfl, hm, hv⟩ hfr (fun k _ => hz k) (fun k q => absurd q (by omega)) (fun z => by rw [← z]; rfl)
  | succ c ih =>
    intro i h2 hc HS hfr
    obtain ⟨s, H, hm, hv, hz, hgs⟩ := HS
    refine V.iload dX9_play_29 rfl ?_
    refine V.aload_n dX9_play_31 rfl ?_
    refine V.getf okX9 2 fl_X9_9 dX9_play_32 (by decide) H.1 rfl ?_
    refine V.alen (v := nI 60) dX9_play_35 (C9_r2 H) (by decide) rfl ?_
    refine V.icmp_ge 72 dX9_play_36 (by decide) (fun z => absurd z (by exact nI_ge (by omega) (by omega))) (fun _ => ?_)
    refine V.aload_n dX9_play_39 rfl ?_
    refine V.getf okX9 2 fl_X9_9 dX9_play_40 (by decide) H.1 rfl ?_
    refine V.iload dX9_play_43 rfl ?_
    refine V.iload dX9_play_45 rfl ?_
    refine V.iload dX9_play_47 rfl ?_
    refine V.icmp_ge 64 dX9_play_49 (by decide) (fun c49 => ?_) (fun c49 => ?_)
    · skip
      have hq : ¬ i < l := by have := (nI_leI (by omega) (by omega)).mp c49; omega
      refine V.iconst (v := 0) dX9_play_64 (by decide) ?_
      refine V.iastH dX9_play_65 (C9_r2 H) (rfl) (by omega) (by decide) (fun h1 eh1 oh1 => ?_)
      have H := isR.setA C9_ok H C9_in2 (by decide) _ _ eh1 oh1
      have hfr : ∀ b : Nat, (b < a ∨ a + 5 ≤ b) → h1 b = h b := fun b hb => (oh1 b (by omega)).trans (hfr b hb)
      refine V.iinc (v := 1) dX9_play_66 rfl (by decide) (by decide) rfl ?_
      refine V.goto 29 dX9_play_69 (by decide) ?_
      refine V.weak [some (.ref a), some (.long (x)), none, some (.int (first)), some (.int (nI l)), some (.int (nI (i + 1))), none] (by simp [leL, sto1, sto2, k2c, nI_1]) ?_
      exact ih (i + 1) h1 (by omega) ⟨_, H, hm, hv, hz, fun k hk => gain_upd hgs (by unfold gainF; first | rw [if_pos hq] | rw [if_neg hq]) k hk⟩ hfr
    · skip
      have hq : i < l := by rcases Nat.lt_or_ge i l with z | z; exact z; exact absurd (nI_le z (by omega)) c49
      refine V.lload_n dX9_play_52 rfl ?_
      refine V.iload_n dX9_play_53 rfl ?_
      refine V.iload dX9_play_54 rfl ?_
      refine V.iadd dX9_play_56 ?_
      refine V.lshr dX9_play_57 ?_
      refine V.lconst (v := 1) dX9_play_58 (by decide) ?_
      refine V.land dX9_play_59 ?_
      refine V.l2i dX9_play_60 ?_
      refine V.goto 65 dX9_play_61 (by decide) ?_
      refine V.iastH dX9_play_65 (C9_r2 H) (rfl) (by omega) (by decide) (fun h2 eh2 oh2 => ?_)
      have H := isR.setA C9_ok H C9_in2 (by decide) _ _ eh2 oh2
      have hfr : ∀ b : Nat, (b < a ∨ a + 5 ≤ b) → h2 b = h b := fun b hb => (oh2 b (by omega)).trans (hfr b hb)
      refine V.iinc (v := 1) dX9_play_66 rfl (by decide) (by decide) rfl ?_
      refine V.goto 29 dX9_play_69 (by decide) ?_
      refine V.weak [some (.ref a), some (.long (x)), none, some (.int (first)), some (.int (nI l)), some (.int (nI (i + 1))), none] (by simp [leL, sto1, sto2, k2c, nI_1]) ?_
      exact ih (i + 1) h2 (by omega) ⟨_, H, hm, hv, hz, fun k hk => gain_upd hgs (by unfold gainF; first | rw [if_pos hq] | rw [if_neg hq]) k hk⟩ hfr
set_option maxRecDepth 100000 in
set_option maxHeartbeats 1000000 in
theorem play_V {d n0 : Nat} {κ : Kd} (hd : 6 ≤ d) {h : Hp} {a l : Nat} {x : Int64} {first : Int32} {s : St} (H : isR C9 h a s) (hl : l ≤ 60) : V MX9_play (d, 0, 0, n0, κ) 0 0 h 0 [some (.ref a), some (.long (x)), none, some (.int (first)), some (.int (nI l)), none, none] [] (fun v h' => v = none ∧ (∃ (g2 w q1 q2 : Nat → Int32), isG h' a g2 w q1 q2 (gameP (gainF x first l) l)) ∧ ∀ b : Nat, (b < a ∨ a + 5 ≤ b) → h' b = h b) := by
  have hfr : ∀ b : Nat, (b < a ∨ a + 5 ≤ b) → h b = h b := fun _ _ => rfl
  refine V.aload_n dX9_play_0 rfl ?_
  refine V.iconst (v := 0) dX9_play_1 (by decide) ?_
  refine V.putfH okX9 0 fl_X9_24 dX9_play_2 (by decide) rfl H.1 (rfl) (rfl) (Nat.le_of_ble_eq_true rfl) (fun h1 eh1 oh1 => ?_)
  have H := isR.setI C9_ok H 0 _ (fun _ _ => rfl) eh1 oh1
  have hfr : ∀ b : Nat, (b < a ∨ a + 5 ≤ b) → h1 b = h b := fun b hb => (oh1 b (by omega)).trans (hfr b hb)
  refine V.aload_n dX9_play_5 rfl ?_
  refine V.iconst (v := 0) dX9_play_6 (by decide) ?_
  refine V.putfH okX9 1 fl_X9_28 dX9_play_7 (by decide) rfl H.1 (rfl) (rfl) (Nat.le_of_ble_eq_true rfl) (fun h2 eh2 oh2 => ?_)
  have H := isR.setI C9_ok H 1 _ (fun _ _ => rfl) eh2 oh2
  have hfr : ∀ b : Nat, (b < a ∨ a + 5 ≤ b) → h2 b = h b := fun b hb => (oh2 b (by omega)).trans (hfr b hb)
  refine V.aload_n dX9_play_10 rfl ?_
  refine V.getf okX9 3 fl_X9_15 dX9_play_11 (by decide) H.1 rfl ?_
  refine V.iconst (v := 0) dX9_play_14 (by decide) ?_
  refine V.cS2 yoJ7_fill_53178 ml_X9_31 st_J7_fill_53178 dX9_play_15 (Nat.le_of_ble_eq_true rfl) (by omega) ⟨Nat.le_refl _, Nat.le_refl _⟩ rfl (Nat.le_of_ble_eq_true rfl) (fillI_V (by omega) (by decide) (C9_r3 H)) ?_
  rintro _ h3 ⟨rfl, eh3, oh3⟩
  have H := isR.setAR C9_ok H C9_in3 (by decide) _ eh3 oh3
  have hfr : ∀ b : Nat, (b < a ∨ a + 5 ≤ b) → h3 b = h b := fun b hb => (oh3 b (by omega)).trans (hfr b hb)
  refine V.aload_n dX9_play_18 rfl ?_
  refine V.getf okX9 4 fl_X9_18 dX9_play_19 (by decide) H.1 rfl ?_
  refine V.iconst (v := 0) dX9_play_22 (by decide) ?_
  refine V.cS2 yoJ7_fill_53178 ml_X9_31 st_J7_fill_53178 dX9_play_23 (Nat.le_of_ble_eq_true rfl) (by omega) ⟨Nat.le_refl _, Nat.le_refl _⟩ rfl (Nat.le_of_ble_eq_true rfl) (fillI_V (by omega) (by decide) (C9_r4 H)) ?_
  rintro _ h4 ⟨rfl, eh4, oh4⟩
  have H := isR.setAR C9_ok H C9_in4 (by decide) _ eh4 oh4
  have hfr : ∀ b : Nat, (b < a ∨ a + 5 ≤ b) → h4 b = h b := fun b hb => (oh4 b (by omega)).trans (hfr b hb)
  refine V.iconst (v := nI 0) dX9_play_26 (by decide) ?_
  refine V.istore dX9_play_27 (by decide) rfl ?_
  exact playGain_V (by omega) hl 60 0 h4 (by omega) ⟨_, H, rfl, rfl, fun k => rfl, fun k hk => absurd hk (Nat.not_lt_zero k)⟩ hfr
