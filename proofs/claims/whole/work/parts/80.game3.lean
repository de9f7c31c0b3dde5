/-! The model: game walked -/
def aGame (T : Tx) (c : St) (x y : Int32) : Int32 := if isManB (T.1.1 0) x = true ∧ (y = 0 ∨ y = 1) then (if y = 0 then (gameP (gK T (nat x) (nat (c.2.1 3 (nat x)))) (nat (cLeft c (nat x)))).1 else (gameP (gK T (nat x) (nat (c.2.1 3 (nat x)))) (nat (cLeft c (nat x)))).2) else -2147483648
theorem GR.nx {T : Tx} {p t l n i : Nat} {r : Nat → Int32} (h : GR T p t l r n i) (hi : l < i + n) : GR T p t l r (n + 1) 0 := fun j q hq hj => h j q hq (by omega)
theorem GR.z0 {T : Tx} {p t l : Nat} {r : Nat → Int32} : GR T p t l r 0 0 := fun j q _ hj => by omega
set_option maxRecDepth 100000 in
set_option maxHeartbeats 1000000 in
theorem gameIn_M {d n0 a : Nat} {κ : Kd} {h0 : Hp} (hd : 5 ≤ d) {T : Tx} {s : St} {p t l : Nat} (hp : p < 6) (hl : t + l ≤ 60) {n : Nat} (hn : n ≤ l) {y : Int32} {P : Option Value → St → Prop} : ∀ (k i : Nat) (s2 : St), i + k = l - n + 1 → relT T s2.2.1 → frX s s2 → GR T p t l (s2.2.1 54) n i → (∀ s3, relT T s3.2.1 → frX s s3 → GR T p t l (s3.2.1 54) (n + 1) 0 → MV MX12_game (d, 0, 0, n0, κ) a h0 s3 109 [some (.ref a), some (.int (nI p)), some (.int (y)), some (.int (nI l)), some (.int (nI t)), some (.int (nI n)), none, none] [] P) → MV MX12_game (d, 0, 0, n0, κ) a h0 s2 60 [some (.ref a), some (.int (nI p)), some (.int (y)), some (.int (nI l)), some (.int (nI t)), some (.int (nI n)), some (.int (nI (t + i))), none] [] P := by
  intro k
  induction k with
  | zero =>
    intro i s2 hik hT f2 H hk
    refine MV.iload dX12_game_60 rfl ?_
    refine MV.iload dX12_game_62 rfl ?_
    refine MV.iadd dX12_game_64 ?_
    refine MV.eqi (nI (t + i + n)) (nI_add _ _) ?_
    refine MV.iload dX12_game_65 rfl ?_
    refine MV.iload_n dX12_game_67 rfl ?_
    refine MV.iadd dX12_game_68 ?_
    refine MV.eqi (nI (t + l)) (nI_add _ _) ?_
    refine MV.icmp_gt 109 dX12_game_69 (by decide) (fun _ => ?_) (fun z => absurd (nI_lt (by omega) (by omega)) z)
    exact MV.weak [some (.ref a), some (.int (nI p)), some (.int (y)), some (.int (nI l)), some (.int (nI t)), some (.int (nI n)), none, none] (by simp [leL, sto1, sto2, k2c]) (hk s2 hT f2 (H.nx (by omega)))
  | succ k ih =>
    intro i s2 hik hT f2 H hk
    refine MV.iload dX12_game_60 rfl ?_
    refine MV.iload dX12_game_62 rfl ?_
    refine MV.iadd dX12_game_64 ?_
    refine MV.eqi (nI (t + i + n)) (nI_add _ _) ?_
    refine MV.iload dX12_game_65 rfl ?_
    refine MV.iload_n dX12_game_67 rfl ?_
    refine MV.iadd dX12_game_68 ?_
    refine MV.eqi (nI (t + l)) (nI_add _ _) ?_
    refine MV.icmp_gt 109 dX12_game_69 (by decide) (fun z => absurd z (nI_nlt (by omega) (by omega))) (fun _ => ?_)
    refine MV.aload_n dX12_game_72 rfl ?_
    refine MV.getf 54 fl_X12_114 dX12_game_73 (by decide) rfl ?_
    refine MV.bipush (v := 61) dX12_game_76 (by decide) ?_
    refine MV.iload dX12_game_78 rfl ?_
    refine MV.imul dX12_game_80 ?_
    refine MV.iload dX12_game_81 rfl ?_
    refine MV.iadd dX12_game_83 ?_
    refine MV.iload dX12_game_84 rfl ?_
    refine MV.if_ne 93 dX12_game_86 (by decide) (fun c86 => ?_) (fun c86 => ?_)
    · skip
      have hn0 : 1 ≤ n := Nat.one_le_iff_ne_zero.mpr (fun z => c86 (by rw [z]; rfl))
      have hv := best_eq hn0 (by omega) (by omega) H
      refine MV.aload_n dX12_game_93 rfl ?_
      refine MV.iload_n dX12_game_94 rfl ?_
      refine MV.iload dX12_game_95 rfl ?_
      refine MV.iload dX12_game_97 rfl ?_
      refine MV.cV3 yoX12_bestOf ml_X12_493 im_X12_bestOf se_X12_bestOf dX12_game_99 rfl (Nat.le_of_ble_eq_true rfl) (by omega) rfl (Nat.le_of_ble_eq_true rfl) (bestOf_M (by omega) hT hp hn0 (by omega)) (MV.rdK ?_)
      refine MV.ast C12_in54 dX12_game_102 (ixM (t + i) n) (by omega) (by decide) ?_
      refine MV.iinc (v := 1) dX12_game_103 rfl (by decide) (by decide) rfl ?_
      refine MV.goto 60 dX12_game_106 (by decide) ?_
      exact MV.weak [some (.ref a), some (.int (nI p)), some (.int (y)), some (.int (nI l)), some (.int (nI t)), some (.int (nI n)), some (.int (nI (t + (i + 1)))), none] (by simp [leL, sto1, sto2, k2c, nI_1, Nat.add_assoc]) (ih (i + 1) _ (by omega) (hT.kept (fun q hq => mA_ne (by omega))) (f2.tr (frX.a (by decide))) (H.step hl (by omega) hv) hk)
    · skip
      have hn0 : n = 0 := Nat.eq_zero_of_not_pos fun z => nI_nle0 z (by omega) (by rw [c86]; decide)
      have hv : (0 : Int32) = (rowsF (gK T p t) n).1 i := by rw [hn0]; rfl
      refine MV.iconst (v := 0) dX12_game_89 (by decide) ?_
      refine MV.goto 102 dX12_game_90 (by decide) ?_
      refine MV.ast C12_in54 dX12_game_102 (ixM (t + i) n) (by omega) (by decide) ?_
      refine MV.iinc (v := 1) dX12_game_103 rfl (by decide) (by decide) rfl ?_
      refine MV.goto 60 dX12_game_106 (by decide) ?_
      exact MV.weak [some (.ref a), some (.int (nI p)), some (.int (y)), some (.int (nI l)), some (.int (nI t)), some (.int (nI n)), some (.int (nI (t + (i + 1)))), none] (by simp [leL, sto1, sto2, k2c, nI_1, Nat.add_assoc]) (ih (i + 1) _ (by omega) (hT.kept (fun q hq => mA_ne (by omega))) (f2.tr (frX.a (by decide))) (H.step hl (by omega) hv) hk)
set_option maxRecDepth 100000 in
set_option maxHeartbeats 1000000 in
theorem gameOut_M {d n0 a : Nat} {κ : Kd} {h0 : Hp} (hd : 5 ≤ d) {T : Tx} {s : St} {p t l : Nat} (hp : p < 6) (hl : t + l ≤ 60) {y : Int32} {P : Option Value → St → Prop} : ∀ (k n : Nat) (s2 : St), n + k = l + 1 → relT T s2.2.1 → frX s s2 → GR T p t l (s2.2.1 54) n 0 → (∀ s3, relT T s3.2.1 → frX s s3 → GR T p t l (s3.2.1 54) (l + 1) 0 → MV MX12_game (d, 0, 0, n0, κ) a h0 s3 115 [some (.ref a), some (.int (nI p)), some (.int (y)), some (.int (nI l)), some (.int (nI t)), none, none, none] [] P) → MV MX12_game (d, 0, 0, n0, κ) a h0 s2 50 [some (.ref a), some (.int (nI p)), some (.int (y)), some (.int (nI l)), some (.int (nI t)), some (.int (nI n)), none, none] [] P := by
  intro k
  induction k with
  | zero =>
    intro n s2 hnk hT f2 H hk
    refine MV.iload dX12_game_50 rfl ?_
    refine MV.iload_n dX12_game_52 rfl ?_
    refine MV.icmp_gt 115 dX12_game_53 (by decide) (fun _ => ?_) (fun z => absurd (nI_lt (by omega) (by omega)) z)
    exact MV.weak [some (.ref a), some (.int (nI p)), some (.int (y)), some (.int (nI l)), some (.int (nI t)), none, none, none] (by simp [leL, sto1, sto2, k2c]) (hk s2 hT f2 (by rw [← show n = l + 1 by omega]; exact H))
  | succ k ih =>
    intro n s2 hnk hT f2 H hk
    refine MV.iload dX12_game_50 rfl ?_
    refine MV.iload_n dX12_game_52 rfl ?_
    refine MV.icmp_gt 115 dX12_game_53 (by decide) (fun z => absurd z (nI_nlt (by omega) (by omega))) (fun _ => ?_)
    refine MV.iload dX12_game_56 rfl ?_
    refine MV.istore dX12_game_58 (by decide) rfl ?_
    exact MV.weak [some (.ref a), some (.int (nI p)), some (.int (y)), some (.int (nI l)), some (.int (nI t)), some (.int (nI n)), some (.int (nI (t + 0))), none] (by simp [leL, sto1, sto2, k2c]) (gameIn_M (by omega) hp hl (by omega) (l - n + 1) 0 s2 (by omega) hT f2 H (fun s3 hT3 f3 H3 => by
      refine MV.iinc (v := 1) dX12_game_109 rfl (by decide) (by decide) rfl ?_
      refine MV.goto 50 dX12_game_112 (by decide) ?_
      exact MV.weak [some (.ref a), some (.int (nI p)), some (.int (y)), some (.int (nI l)), some (.int (nI t)), some (.int (nI (n + 1))), none, none] (by simp [leL, sto1, sto2, k2c, nI_1]) (ih (n + 1) _ (by omega) hT3 f3 H3 hk)))
theorem nI_lin (w h : Nat) : nI 10 * nI w + nI h = nI (10 * w + h) := by
  unfold nI
  apply Int32.toBitVec_inj.mp
  simp
set_option maxRecDepth 100000 in
set_option maxHeartbeats 1000000 in
theorem moveIn_M {d n0 a : Nat} {κ : Kd} {h0 : Hp} (hd : 5 ≤ d) {T : Tx} {s : St} (hT : relT T s.2.1) {p t l : Nat} (hp : p < 6) (h1 : 1 ≤ l) (hl : t + l ≤ 60) {V y : Int32} {w : Nat} (hw : w < 2) {P : Option Value → St → Prop} : ∀ (j h : Nat), 1 ≤ h → h + j = (if l < 2 then 1 else 2) + 1 → (∀ q, h ≤ q → q ≤ (if l < 2 then 1 else 2) → (∀ q1, h ≤ q1 → q1 < q → ¬ tkF T (s.2.1 54) p t l w q1 = V) → tkF T (s.2.1 54) p t l w q = V → P (some (.int (nI (10 * w + q)))) s) → ((∀ q, h ≤ q → q ≤ (if l < 2 then 1 else 2) → ¬ tkF T (s.2.1 54) p t l w q = V) → MV MX12_game (d, 0, 0, n0, κ) a h0 s 190 [some (.ref a), some (.int (nI p)), some (.int (y)), some (.int (nI l)), some (.int (nI t)), some (.int (V)), some (.int (nI w)), none] [] P) → MV MX12_game (d, 0, 0, n0, κ) a h0 s 148 [some (.ref a), some (.int (nI p)), some (.int (y)), some (.int (nI l)), some (.int (nI t)), some (.int (V)), some (.int (nI w)), some (.int (nI h))] [] P := by
  intro j
  induction j with
  | zero =>
    intro h hh hj hP hk
    skip
    refine MV.iload dX12_game_148 rfl ?_
    refine MV.iconst (v := 2) dX12_game_150 (by decide) ?_
    refine MV.iload_n dX12_game_151 rfl ?_
    refine MV.mmin ml_X12_390 st_J9_min_7cf53 ini_J9 co_J9_min_7cf53 dX12_game_152 (by omega) (Nat.le_of_ble_eq_true rfl) ?_
    have hm : (if l < 2 then 1 else 2) ≤ 2 := by split <;> omega
    refine MV.eqi (nI (if l < 2 then 1 else 2)) (min2 h1 (by omega)) ?_
    refine MV.icmp_gt 190 dX12_game_155 (by decide) (fun _ => ?_) (fun z => absurd (nI_lt (by omega) (by omega)) z)
    exact MV.weak [some (.ref a), some (.int (nI p)), some (.int (y)), some (.int (nI l)), some (.int (nI t)), some (.int (V)), some (.int (nI w)), none] (by simp [leL, sto1, sto2, k2c]) (hk (fun q a b => absurd b (by omega)))
  | succ j ih =>
    intro h hh hj hP hk
    skip
    refine MV.iload dX12_game_148 rfl ?_
    refine MV.iconst (v := 2) dX12_game_150 (by decide) ?_
    refine MV.iload_n dX12_game_151 rfl ?_
    refine MV.mmin ml_X12_390 st_J9_min_7cf53 ini_J9 co_J9_min_7cf53 dX12_game_152 (by omega) (Nat.le_of_ble_eq_true rfl) ?_
    have hm : (if l < 2 then 1 else 2) ≤ 2 := by split <;> omega
    refine MV.eqi (nI (if l < 2 then 1 else 2)) (min2 h1 (by omega)) ?_
    refine MV.icmp_gt 190 dX12_game_155 (by decide) (fun z => absurd z (nI_nlt (by omega) (by omega))) (fun _ => ?_)
    refine MV.aload_n dX12_game_158 rfl ?_
    refine MV.iload_n dX12_game_159 rfl ?_
    refine MV.iload dX12_game_160 rfl ?_
    refine MV.iload_n dX12_game_162 rfl ?_
    refine MV.iload dX12_game_163 rfl ?_
    refine MV.iload dX12_game_165 rfl ?_
    refine MV.cV5 yoX12_takes ml_X12_488 im_X12_takes se_X12_takes dX12_game_167 rfl (Nat.le_of_ble_eq_true rfl) (by omega) rfl (Nat.le_of_ble_eq_true rfl) (takes_M (by omega) hT hp (by omega) (by split at hj <;> omega) hl hw) (MV.rdK ?_)
    refine MV.iload dX12_game_170 rfl ?_
    refine MV.icmp_ne 184 dX12_game_172 (by decide) (fun c172 => ?_) (fun c172 => ?_)
    · skip
      refine MV.iinc (v := 1) dX12_game_184 rfl (by decide) (by decide) rfl ?_
      refine MV.goto 148 dX12_game_187 (by decide) ?_
      exact MV.weak [some (.ref a), some (.int (nI p)), some (.int (y)), some (.int (nI l)), some (.int (nI t)), some (.int (V)), some (.int (nI w)), some (.int (nI (h + 1)))] (by simp [leL, sto1, sto2, k2c, nI_1]) (ih (h + 1) (by omega) (by omega) (fun q a b e z => hP q (by omega) b (fun q1 x1 x2 => if x3 : q1 = h then by rw [x3]; exact c172 else e q1 (by omega) x2) z) (fun e => hk (fun q x1 x2 => if x3 : q = h then by rw [x3]; exact c172 else e q (by omega) x2)))
    · skip
      refine MV.bipush (v := nI 10) dX12_game_175 (by decide) ?_
      refine MV.iload dX12_game_177 rfl ?_
      refine MV.imul dX12_game_179 ?_
      refine MV.iload dX12_game_180 rfl ?_
      refine MV.iadd dX12_game_182 ?_
      refine MV.eqi (nI (10 * w + h)) (nI_lin w h) ?_
      refine MV.iret dX12_game_183 rfl ?_
      exact hP h (Nat.le_refl _) (by omega) (fun q a b => absurd b (by omega)) c172
set_option maxRecDepth 100000 in
set_option maxHeartbeats 2000000 in
theorem game_M {d n0 a : Nat} {κ : Kd} {h0 : Hp} (hd : 6 ≤ d) {T : Tx} {s c : St} (hR : Rm T s 0 c) {x y : Int32} : MV MX12_game (d, 0, 0, n0, κ) a h0 s 0 [some (.ref a), some (.int (x)), some (.int (y)), none, none, none, none, none] [] (fun v s' => v = some (.int (aGame T c x y)) ∧ frX s s') := by
  refine MV.aload_n dX12_game_0 rfl ?_
  refine MV.iconst (v := 0) dX12_game_1 (by decide) ?_
  refine MV.putf 0 fl_X12_148 dX12_game_2 (by decide) rfl (rfl) (rfl) C12_s0 ?_
  refine MV.aload_n dX12_game_5 rfl ?_
  refine MV.iload_n dX12_game_6 rfl ?_
  refine MV.cV1 yoX12_isMan ml_X12_425 im_X12_isMan se_X12_isMan dX12_game_7 rfl (Nat.le_of_ble_eq_true rfl) (by omega) rfl (Nat.le_of_ble_eq_true rfl) (mIsMan_M (by omega)) (MV.rdK ?_)
  refine MV.if_eq 22 dX12_game_10 (by decide) (fun c10 => ?_) (fun c10 => ?_)
  · skip
    have hno := noMan hR.1 c10
    have hA : aGame T c x y = -2147483648 := by
      unfold aGame
      rw [if_neg (fun z => hno z.1)]
    refine MV.ldcw kc_X12_492 dX12_game_22 ?_
    refine MV.iret dX12_game_25 rfl ?_
    exact ⟨by rw [hA], frX.z⟩
  · skip
    obtain ⟨hman, p, rfl, hp, hp6, hnat⟩ := yesMan hR.1 c10
    obtain ⟨I0, t, l0, i1, i2, i3, i4, i5, i6⟩ := hR.2.2 p hp
    obtain ⟨b1, b2, b3, b4⟩ := hR.2.1.r0 hp6
    obtain ⟨l, hl⟩ : ∃ l, l = I0 - t - l0 := ⟨_, rfl⟩
    have hcl : cLeft c p = nI l := by unfold cLeft; rw [i1, i2, i3, nI_subI (by omega), nI_subI (by omega), hl]
    have eL := (hR.2.1.left hR.1 hp).1
    have hnt : nat (nI t) = t := nI_clamp (by omega)
    have hnl : nat (nI l) = l := nI_clamp (by omega)
    refine MV.iload_n dX12_game_13 rfl ?_
    refine MV.if_lt 22 dX12_game_14 (by decide) (fun c14 => ?_) (fun c14 => ?_)
    · skip
      have hA : aGame T c (nI p) y = -2147483648 := by
        unfold aGame
        rw [if_neg (fun z => by rcases z.2 with q | q <;> (rw [q] at c14; exact absurd c14 (by decide)))]
      refine MV.ldcw kc_X12_492 dX12_game_22 ?_
      refine MV.iret dX12_game_25 rfl ?_
      exact ⟨by rw [hA], frX.z⟩
    · skip
      refine MV.iload_n dX12_game_17 rfl ?_
      refine MV.iconst (v := 1) dX12_game_18 (by decide) ?_
      refine MV.icmp_le 26 dX12_game_19 (by decide) (fun c19 => ?_) (fun c19 => ?_)
      · skip
        have hy : y = 0 ∨ y = 1 := by
          obtain ⟨q, hq, rfl⟩ := nI_of c14
          have : q ≤ 1 := Nat.not_lt.mp fun z => nI_ge (a := 1) (b := q) z hq c19
          have : q = 0 ∨ q = 1 := by omega
          rcases this with rfl | rfl
          · exact Or.inl rfl
          · exact Or.inr rfl
        obtain ⟨V, M, hV⟩ : ∃ V M, gameP (gK T p t) l = (V, M) := ⟨_, _, rfl⟩
        have hAg : aGame T c (nI p) y = if y = 0 then V else M := by
          unfold aGame
          rw [if_pos ⟨hman, hy⟩, hnat, i2, hcl, hnt, hnl, hV]
        refine MV.aload_n dX12_game_26 rfl ?_
        refine MV.iconst (v := 0) dX12_game_27 (by decide) ?_
        refine MV.iload_n dX12_game_28 rfl ?_
        refine MV.cV2 yoX12_leftOf ml_X12_353 im_X12_leftOf se_X12_leftOf dX12_game_29 rfl (Nat.le_of_ble_eq_true rfl) (by omega) rfl (Nat.le_of_ble_eq_true rfl) (mLeft_M (r := 0) (by omega) (by decide) hp6) (MV.rdK ?_)
        refine MV.eqi (nI l) (eL.trans hcl) ?_
        refine MV.istore_n dX12_game_32 (by decide) rfl ?_
        refine MV.aload_n dX12_game_33 rfl ?_
        refine MV.getf 40 fl_X12_87 dX12_game_34 (by decide) rfl ?_
        refine MV.iload_n dX12_game_37 rfl ?_
        refine MV.ald C12_in40 dX12_game_38 (rfl) (by omega) (by decide) ?_
        refine MV.eqi (nI t) (b1.symm.trans i2) ?_
        refine MV.istore dX12_game_39 (by decide) rfl ?_
        refine MV.iload_n dX12_game_41 rfl ?_
        refine MV.if_ne 47 dX12_game_42 (by decide) (fun c42 => ?_) (fun c42 => ?_)
        · skip
          have h1 : 1 ≤ l := Nat.one_le_iff_ne_zero.mpr (fun z => c42 (by rw [z]; rfl))
          have hrow : (rowsF (gK T p t) l).1 0 = V := by
            obtain ⟨k, rfl⟩ : ∃ k, l = k + 1 := ⟨l - 1, by omega⟩
            exact congrArg Prod.fst hV
          refine MV.iconst (v := nI 0) dX12_game_47 (by decide) ?_
          refine MV.istore dX12_game_48 (by decide) rfl ?_
          refine MV.weak [some (.ref a), some (.int (nI p)), some (.int (y)), some (.int (nI l)), some (.int (nI t)), some (.int (nI 0)), none, none] (by simp [leL, sto1, sto2, k2c]) ?_
          refine gameOut_M (T := T) (s := mI s 0 0) (by omega) hp6 (by omega) (l + 1) 0 (mI s 0 0) (by omega) hR.1 frX.rf GR.z0 (fun s3 hT3 f3 H3 => ?_)
          have hfx : frX s s3 := frX.z.tr f3
          have hV3 : s3.2.1 54 (61 * t + l) = V := (H3 l 0 (by omega) (by omega)).trans hrow
          refine MV.aload_n dX12_game_115 rfl ?_
          refine MV.getf 54 fl_X12_114 dX12_game_116 (by decide) rfl ?_
          refine MV.bipush (v := 61) dX12_game_119 (by decide) ?_
          refine MV.iload dX12_game_121 rfl ?_
          refine MV.imul dX12_game_123 ?_
          refine MV.iload_n dX12_game_124 rfl ?_
          refine MV.iadd dX12_game_125 ?_
          refine MV.ald C12_in54 dX12_game_126 (ixM t l) (by omega) (by decide) ?_
          refine MV.eqi V hV3 ?_
          refine MV.istore dX12_game_127 (by decide) rfl ?_
          refine MV.iload_n dX12_game_129 rfl ?_
          refine MV.if_ne 136 dX12_game_130 (by decide) (fun c130 => ?_) (fun c130 => ?_)
          · skip
            have hA : aGame T c (nI p) y = M := by rw [hAg, if_neg c130]
            obtain ⟨g1, g2, g3, g4, g5⟩ := game_move h1 (fun j q a b => H3 j q a (by omega)) hV
            refine MV.iconst (v := nI 0) dX12_game_136 (by decide) ?_
            refine MV.istore dX12_game_137 (by decide) rfl ?_
            refine MV.iload dX12_game_139 rfl ?_
            refine MV.iconst (v := 2) dX12_game_141 (by decide) ?_
            refine MV.icmp_ge 196 dX12_game_142 (by decide) (fun z => absurd z (show ¬ (2 : Int32) ≤ nI 0 by decide)) (fun _ => ?_)
            refine MV.iconst (v := nI 1) dX12_game_145 (by decide) ?_
            refine MV.istore dX12_game_146 (by decide) rfl ?_
            refine MV.weak [some (.ref a), some (.int (nI p)), some (.int (y)), some (.int (nI l)), some (.int (nI t)), some (.int (V)), some (.int (nI 0)), some (.int (nI 1))] (by simp [leL, sto1, sto2, k2c]) ?_
            refine moveIn_M (w := 0) (by omega) hT3 hp6 h1 (by omega) (by decide) (if l < 2 then 1 else 2) 1 (Nat.le_refl 1) (by omega) (fun q q1 q2 q3 q4 => ?_) (fun e0 => ?_)
            · refine ⟨?_, hfx⟩
              rw [hA]
              have : q = 1 ∨ (q = 2 ∧ 2 ≤ l) := by split at q2 <;> omega
              rcases this with rfl | ⟨rfl, h2⟩
              · rw [g1 q4]
                rfl
              · rw [g2 (q3 1 (by decide) (by decide)) h2 q4]
                rfl
            have n01 : ¬ tkF T (s3.2.1 54) p t l 0 1 = V := e0 1 (Nat.le_refl 1) (by split <;> omega)
            have n02 : 2 ≤ l → ¬ tkF T (s3.2.1 54) p t l 0 2 = V := fun h2 => e0 2 (by decide) (by rw [if_neg (by omega)]; decide)
            refine MV.iinc (v := 1) dX12_game_190 rfl (by decide) (by decide) rfl ?_
            refine MV.goto 139 dX12_game_193 (by decide) ?_
            refine MV.iload dX12_game_139 rfl ?_
            refine MV.iconst (v := 2) dX12_game_141 (by decide) ?_
            refine MV.icmp_ge 196 dX12_game_142 (by decide) (fun z => absurd z (show ¬ (2 : Int32) ≤ nI 0 + 1 by decide)) (fun _ => ?_)
            refine MV.iconst (v := nI 1) dX12_game_145 (by decide) ?_
            refine MV.istore dX12_game_146 (by decide) rfl ?_
            refine MV.weak [some (.ref a), some (.int (nI p)), some (.int (y)), some (.int (nI l)), some (.int (nI t)), some (.int (V)), some (.int (nI 1)), some (.int (nI 1))] (by simp [leL, sto1, sto2, k2c, nI_1]; try decide) ?_
            refine moveIn_M (w := 1) (by omega) hT3 hp6 h1 (by omega) (by decide) (if l < 2 then 1 else 2) 1 (Nat.le_refl 1) (by omega) (fun q q1 q2 q3 q4 => ?_) (fun e1 => ?_)
            · refine ⟨?_, hfx⟩
              rw [hA]
              have : q = 1 ∨ (q = 2 ∧ 2 ≤ l) := by split at q2 <;> omega
              rcases this with rfl | ⟨rfl, h2⟩
              · rw [g3 n01 n02 q4]
                rfl
              · rw [g4 h2 n01 (n02 h2) (q3 1 (by decide) (by decide))]
                rfl
            · exact absurd ⟨n01, n02, e1 1 (Nat.le_refl 1) (by split <;> omega), fun h2 => e1 2 (by decide) (by rw [if_neg (by omega)]; decide)⟩ g5
          · skip
            have hA : aGame T c (nI p) y = V := by rw [hAg, if_pos c130]
            refine MV.iload dX12_game_133 rfl ?_
            refine MV.iret dX12_game_135 rfl ?_
            exact ⟨by rw [hA], hfx⟩
        · skip
          have hl0 : l = 0 := Nat.eq_zero_of_not_pos fun z => nI_nle0 z (by omega) (by rw [c42]; decide)
          have hA : aGame T c (nI p) y = 0 := by
            rw [hl0] at hV
            obtain ⟨rfl, rfl⟩ := Prod.mk.inj hV
            rw [hAg]
            split <;> rfl
          refine MV.iconst (v := 0) dX12_game_45 (by decide) ?_
          refine MV.iret dX12_game_46 rfl ?_
          exact ⟨by rw [hA], frX.z⟩
      · skip
        have hA : aGame T c (nI p) y = -2147483648 := by
          unfold aGame
          rw [if_neg (fun z => by rcases z.2 with q | q <;> (rw [q] at c19; exact absurd (by decide) c19))]
        refine MV.ldcw kc_X12_492 dX12_game_22 ?_
        refine MV.iret dX12_game_25 rfl ?_
        exact ⟨by rw [hA], frX.z⟩
