/-! The model: match -/
abbrev Ops := Int × (Nat → Int32)
/-- the better one; of two alike the first -/
def stp (s o : Ops) : Ops := if s.1 < o.1 then o else s
def shO (c : Int) (o : Ops) : Ops := (c + o.1, o.2)
def bsF (f : Nat → Option Ops) (z : Ops) : Nat → Nat → Ops
  | 0, _ => z
  | k + 1, x => match f x with
    | some o => stp (shO 1 o) (bsF f z k (x + 1))
    | none => bsF f z k (x + 1)
/-- how many have a lender, and which, from person p on -/
def mgF (ok : Nat → Int32 → Nat → Bool) (N : Nat) : Nat → Nat → Int32 → (Nat → Int32) → Ops
  | 0, _, _, A => (0, A)
  | j + 1, p, u, A => bsF (fun x => if ok p u x = true then some (mgF ok N j (p + 1) (u ||| bitM x) (upd A p (nI x))) else none) (mgF ok N j (p + 1) u (upd A p (-2))) N 0
theorem stp_as (a b c : Ops) : stp a (stp b c) = stp (stp a b) c := by
  unfold stp
  by_cases h : a.1 < b.1
  · rw [if_pos h]
    by_cases k : b.1 < c.1
    · rw [if_pos k, if_pos (by omega)]
    · rw [if_neg k, if_pos h]
  · rw [if_neg h]
    by_cases k : b.1 < c.1
    · rw [if_pos k]
    · rw [if_neg k, if_neg h, if_neg (by omega)]
theorem shO_stp (c : Int) (a b : Ops) : shO c (stp a b) = stp (shO c a) (shO c b) := by
  unfold stp shO
  by_cases h : a.1 < b.1
  · rw [if_pos h, if_pos (by show c + a.1 < c + b.1; omega)]
  · rw [if_neg h, if_neg (by show ¬ c + a.1 < c + b.1; omega)]
theorem shO_sh (c e : Int) (a : Ops) : shO c (shO e a) = shO (c + e) a := by
  unfold shO
  rw [Int.add_assoc]
theorem bs_some {f : Nat → Option Ops} {z o s : Ops} {k x : Nat} {c : Int} (h : f x = some o) : stp s (shO c (bsF f z (k + 1) x)) = stp (stp s (shO (c + 1) o)) (shO c (bsF f z k (x + 1))) := by
  rw [bsF, h]
  show stp s (shO c (stp (shO 1 o) (bsF f z k (x + 1)))) = _
  rw [shO_stp, stp_as, shO_sh]
theorem bs_none {f : Nat → Option Ops} {z : Ops} {k x : Nat} (h : f x = none) : bsF f z (k + 1) x = bsF f z k (x + 1) := by
  rw [bsF, h]
def okW (T : Tx) (c : St) (p : Nat) (u : Int32) : Int32 := if seesB (litM (c.2.1 5) (nat (T.1.1 0))) (T.1.2.1 4 p) p = true then 0 else T.1.2.1 4 p &&& (u ^^^ (-1))
def okM (T : Tx) (c : St) (p : Nat) (u : Int32) (x : Nat) : Bool := decide (¬ (okW T c p u >>> (nI x &&& 31)) &&& 1 = 0) && decide (¬ cLeft c x = 0)
def MT (n : Nat) (s : St) (o : Ops) : Prop := (s.1 53).toInt = o.1 ∧ ∀ q, q < n → s.2.1 52 q = o.2 q
theorem preA {s : St} {p : Nat} {A : Nat → Int32} {v : Int32} (h : ∀ q, q < p → s.2.1 51 q = A q) : ∀ q, q < p + 1 → (mA s 51 p v).2.1 51 q = upd A p v q := by
  intro q hq
  rw [mA_at]
  unfold upd
  by_cases e : q = p
  · rw [if_pos e, if_pos e]
  · rw [if_neg e, if_neg e]
    exact h q (by omega)
theorem nIt {n : Nat} (h : n < 2 ^ 31) : (nI n).toInt = n := nI_toInt h
set_option maxRecDepth 100000 in
set_option maxHeartbeats 4000000 in
theorem matches_M {n0 a : Nat} {κ : Kd} {h0 : Hp} {T : Tx} {c : St} {n : Nat} (hn : n = nat (T.1.1 0)) : ∀ (j : Nat) {d : Nat} (p : Nat) (u : Int32) (sc : Nat) (A : Nat → Int32) (o R : Ops) (s : St), p + j = n → sc ≤ p → j + 4 ≤ d → Rm T s 0 c → MT n s o → (∀ q, q < p → s.2.1 51 q = A q) → stp o (shO sc (mgF (okM T c) n j p u A)) = R → MV MX12_matches (d, 0, 0, n0, κ) a h0 s 0 [some (.ref a), some (.int (nI p)), some (.int (u)), some (.int (nI sc)), none, none] [] (fun v s' => v = none ∧ MT n s' R ∧ (∀ q, q < p → s'.2.1 51 q = s.2.1 51 q) ∧ frX s s') := by
  intro j
  induction j with
  | zero =>
    intro d p u sc A o R s hj hsc hd hRm hM hA hRR
    obtain ⟨e0, n6⟩ := lo0 hRm
    have hL : ((sc + 0 : Int), A) = R → ∀ (k i : Nat) (s2 : St), i + k = p → frX s s2 → s2.1 53 = nI sc → s2.2.1 51 = s.2.1 51 → (∀ q, q < i → s2.2.1 52 q = s2.2.1 51 q) → MV MX12_matches (d, 0, 0, n0, κ) a h0 s2 27 [some (.ref a), some (.int (nI p)), some (.int (u)), some (.int (nI sc)), some (.int (nI i)), none] [] (fun v s' => v = none ∧ MT n s' R ∧ (∀ q, q < p → s'.2.1 51 q = s.2.1 51 q) ∧ frX s s') := by
      intro hR k
      induction k with
      | zero =>
        intro i s2 hik f2 e53 e51 hb
        skip
        refine MV.iload dX12_matches_27 rfl ?_
        refine MV.iload_n dX12_matches_29 rfl ?_
        refine MV.icmp_ge 53 dX12_matches_30 (by decide) (fun _ => ?_) (fun z => absurd (nI_le (by omega) (by omega)) z)
        refine MV.vret dX12_matches_53 rfl ?_
        exact ⟨rfl, ⟨by rw [← hR]; exact (congrArg Int32.toInt e53).trans ((nIt (by omega)).trans (Int.add_zero _).symm), fun q hq => by rw [← hR]; exact (hb q (by omega)).trans ((congrFun e51 q).trans (hA q (by omega)))⟩, fun q hq => congrFun e51 q, f2⟩
      | succ k ih =>
        intro i s2 hik f2 e53 e51 hb
        skip
        refine MV.iload dX12_matches_27 rfl ?_
        refine MV.iload_n dX12_matches_29 rfl ?_
        refine MV.icmp_ge 53 dX12_matches_30 (by decide) (fun z => absurd z (nI_ge (by omega) (by omega))) (fun _ => ?_)
        refine MV.aload_n dX12_matches_33 rfl ?_
        refine MV.getf 52 fl_X12_111 dX12_matches_34 (by decide) rfl ?_
        refine MV.iload dX12_matches_37 rfl ?_
        refine MV.aload_n dX12_matches_39 rfl ?_
        refine MV.getf 51 fl_X12_108 dX12_matches_40 (by decide) rfl ?_
        refine MV.iload dX12_matches_43 rfl ?_
        refine MV.ald C12_in51 dX12_matches_45 (rfl) (by omega) (by decide) ?_
        refine MV.ast C12_in52 dX12_matches_46 (rfl) (by omega) (by decide) ?_
        refine MV.iinc (v := 1) dX12_matches_47 rfl (by decide) (by decide) rfl ?_
        refine MV.goto 27 dX12_matches_50 (by decide) ?_
        refine MV.weak [some (.ref a), some (.int (nI p)), some (.int (u)), some (.int (nI sc)), some (.int (nI (i + 1))), none] (by simp [leL, sto1, sto2, k2c, nI_1]) ?_
        refine ih (i + 1) _ (by omega) (f2.tr (frX.a (by decide))) e53 ((mA_ne (by decide)).trans e51) (fun q hq => ?_)
        rw [mA_at]
        by_cases e : q = i
        · rw [if_pos e, e]; rfl
        · rw [if_neg e]; exact hb q (by omega)
    refine MV.iload_n dX12_matches_0 rfl ?_
    refine MV.aload_n dX12_matches_1 rfl ?_
    refine MV.getf 3 fl_X12_13 dX12_matches_2 (by decide) rfl ?_
    refine MV.iconst (v := nI 0) dX12_matches_5 (by decide) ?_
    refine MV.ald C12_in3 dX12_matches_6 (rfl) (by omega) (by decide) ?_
    refine MV.icmp_ne 54 dX12_matches_7 (by decide) (fun z => absurd (by rw [e0, ← hn, show p = n by omega]) z) (fun _ => ?_)
    refine MV.iload_n dX12_matches_10 rfl ?_
    refine MV.aload_n dX12_matches_11 rfl ?_
    refine MV.getf 53 fl_X12_478 dX12_matches_12 (by decide) rfl ?_
    refine MV.icmp_gt 19 dX12_matches_15 (by decide) (fun c15 => ?_) (fun c15 => ?_)
    · skip
      have hlt : o.1 < sc := by
        have := int_lt.mp c15
        rw [hM.1, nIt (by omega)] at this
        exact this
      have hR : ((sc + 0 : Int), A) = R := by rw [← hRR]; exact (if_pos (by show o.1 < (sc : Int) + 0; omega)).symm
      refine MV.aload_n dX12_matches_19 rfl ?_
      refine MV.iload_n dX12_matches_20 rfl ?_
      refine MV.putf 53 fl_X12_478 dX12_matches_21 (by decide) rfl (rfl) (rfl) C12_s53 ?_
      refine MV.iconst (v := nI 0) dX12_matches_24 (by decide) ?_
      refine MV.istore dX12_matches_25 (by decide) rfl ?_
      exact hL hR p 0 (mI s 53 (nI sc)) (by omega) frX.m53 rfl rfl (fun q hq => absurd hq (by omega))
    · skip
      have hlt : ¬ o.1 < sc := fun z => c15 (int_lt.mpr (by rw [hM.1, nIt (by omega)]; exact z))
      have hR : o = R := by rw [← hRR]; exact (if_neg (by show ¬ o.1 < (sc : Int) + 0; omega)).symm
      refine MV.vret dX12_matches_18 rfl ?_
      exact ⟨rfl, by rw [← hR]; exact hM, fun _ _ => rfl, frX.rf⟩
  | succ j ihj =>
    intro d p u sc A o R s hj hsc hd hRm hM hA hRR
    obtain ⟨e0, n6⟩ := lo0 hRm
    have hl := hRm.1.2.2.2.2.1
    obtain ⟨f, hfd⟩ : ∃ f, f = fun x => if okM T c p u x = true then some (mgF (okM T c) n j (p + 1) (u ||| bitM x) (upd A p (nI x))) else none := ⟨_, rfl⟩
    obtain ⟨z, hzd⟩ : ∃ z, z = mgF (okM T c) n j (p + 1) u (upd A p (-2)) := ⟨_, rfl⟩
    rw [mgF, ← hfd, ← hzd] at hRR
    have hL : ∀ (k x : Nat) (o2 : Ops) (s2 : St), x + k = n → Rm T s2 0 c → frX s s2 → MT n s2 o2 → (∀ q, q < p → s2.2.1 51 q = A q) → stp o2 (shO sc (bsF f z k x)) = R → MV MX12_matches (d, 0, 0, n0, κ) a h0 s2 85 [some (.ref a), some (.int (nI p)), some (.int (u)), some (.int (nI sc)), some (.int (okW T c p u)), some (.int (nI x))] [] (fun v s' => v = none ∧ MT n s' R ∧ (∀ q, q < p → s'.2.1 51 q = s.2.1 51 q) ∧ frX s s') := by
      intro k
      induction k with
      | zero =>
        intro x o2 s2 hxk hR2 f2 hM2 hA2 hv
        obtain ⟨e02, -⟩ := lo0 hR2
        rw [bsF, hzd] at hv
        refine MV.iload dX12_matches_85 rfl ?_
        refine MV.aload_n dX12_matches_87 rfl ?_
        refine MV.getf 3 fl_X12_13 dX12_matches_88 (by decide) rfl ?_
        refine MV.iconst (v := nI 0) dX12_matches_91 (by decide) ?_
        refine MV.ald C12_in3 dX12_matches_92 (rfl) (by omega) (by decide) ?_
        refine MV.icmp_ge 149 dX12_matches_93 (by decide) (fun _ => ?_) (fun z => absurd (by rw [e02]; exact nI_le (by omega) (by omega)) z)
        refine MV.aload_n dX12_matches_149 rfl ?_
        refine MV.getf 51 fl_X12_108 dX12_matches_150 (by decide) rfl ?_
        refine MV.iload_n dX12_matches_153 rfl ?_
        refine MV.bipush (v := (-2)) dX12_matches_154 (by decide) ?_
        refine MV.ast C12_in51 dX12_matches_156 (rfl) (by omega) (by decide) ?_
        refine MV.aload_n dX12_matches_157 rfl ?_
        refine MV.iload_n dX12_matches_158 rfl ?_
        refine MV.iconst (v := 1) dX12_matches_159 (by decide) ?_
        refine MV.iadd dX12_matches_160 ?_
        refine MV.eqi (nI (p + 1)) (nI_1 p) ?_
        refine MV.iload_n dX12_matches_161 rfl ?_
        refine MV.iload_n dX12_matches_162 rfl ?_
        refine MV.cV3 yoX12_matches ml_X12_481 im_X12_matches se_X12_matches dX12_matches_163 rfl (Nat.le_of_ble_eq_true rfl) (by omega) rfl (Nat.le_of_ble_eq_true rfl) (ihj (p + 1) u sc (upd A p (-2)) o2 R (mA s2 51 p (-2)) (by omega) (by omega) (by omega) (frX.R (frX.a (by decide)) hR2) ⟨hM2.1, fun q hq => (congrFun (mA_ne (by decide)) q).trans (hM2.2 q hq)⟩ (preA hA2) hv) ?_
        rintro _ s3 ⟨rfl, hM3, h51, f3⟩
        refine MV.vret dX12_matches_166 rfl ?_
        exact ⟨rfl, hM3, fun q hq => ((h51 q (by omega)).trans (by rw [mA_at, if_neg (by omega)])).trans ((hA2 q hq).trans (hA q hq).symm), f2.tr ((frX.a (by decide)).tr f3)⟩
      | succ k ih =>
        intro x o2 s2 hxk hR2 f2 hM2 hA2 hv
        obtain ⟨e02, -⟩ := lo0 hR2
        refine MV.iload dX12_matches_85 rfl ?_
        refine MV.aload_n dX12_matches_87 rfl ?_
        refine MV.getf 3 fl_X12_13 dX12_matches_88 (by decide) rfl ?_
        refine MV.iconst (v := nI 0) dX12_matches_91 (by decide) ?_
        refine MV.ald C12_in3 dX12_matches_92 (rfl) (by omega) (by decide) ?_
        refine MV.icmp_ge 149 dX12_matches_93 (by decide) (fun z => absurd z (by rw [e02]; exact nI_ge (by omega) (by omega))) (fun _ => ?_)
        refine MV.iload dX12_matches_96 rfl ?_
        refine MV.iload dX12_matches_98 rfl ?_
        refine MV.ishr dX12_matches_100 ?_
        refine MV.iconst (v := 1) dX12_matches_101 (by decide) ?_
        refine MV.iand dX12_matches_102 ?_
        refine MV.if_eq 143 dX12_matches_103 (by decide) (fun c103 => ?_) (fun c103 => ?_)
        · skip
          have hf : f x = none := by
            rw [hfd]
            exact if_neg (fun z => by unfold okM at z; rw [decide_eq_false (fun q => q c103), Bool.false_and] at z; exact absurd z (by decide))
          have hRx := hR2
          have fx := f2
          have Mx := hM2
          have Ax := hA2
          have hvx : stp o2 (shO sc (bsF f z k (x + 1))) = R := by rw [← bs_none hf]; exact hv
          refine MV.iinc (v := 1) dX12_matches_143 rfl (by decide) (by decide) rfl ?_
          refine MV.goto 85 dX12_matches_146 (by decide) ?_
          refine MV.weak [some (.ref a), some (.int (nI p)), some (.int (u)), some (.int (nI sc)), some (.int (okW T c p u)), some (.int (nI (x + 1)))] (by simp [leL, sto1, sto2, k2c, nI_1]) ?_
          exact ih (x + 1) _ _ (by omega) hRx fx Mx Ax hvx
        · skip
          refine MV.aload_n dX12_matches_106 rfl ?_
          refine MV.iconst (v := nI 0) dX12_matches_107 (by decide) ?_
          refine MV.iload dX12_matches_108 rfl ?_
          refine MV.cV2 yoX12_leftOf ml_X12_353 im_X12_leftOf se_X12_leftOf dX12_matches_110 rfl (Nat.le_of_ble_eq_true rfl) (by omega) rfl (Nat.le_of_ble_eq_true rfl) (mLeft_M (r := 0) (by omega) (by decide) (by omega)) (MV.rdK ?_)
          refine MV.if_ne 119 dX12_matches_113 (by decide) (fun c113 => ?_) (fun c113 => ?_)
          · skip
            have q113 : ¬ cLeft c x = 0 := fun z => c113 ((hR2.2.1.left hR2.1 (by omega)).1.trans z)
            have hok : okM T c p u x = true := by unfold okM; rw [decide_eq_true c103, decide_eq_true q113]; rfl
            have hf : f x = some (mgF (okM T c) n j (p + 1) (u ||| bitM x) (upd A p (nI x))) := by
              rw [hfd]
              exact if_pos hok
            refine MV.aload_n dX12_matches_119 rfl ?_
            refine MV.getf 51 fl_X12_108 dX12_matches_120 (by decide) rfl ?_
            refine MV.iload_n dX12_matches_123 rfl ?_
            refine MV.iload dX12_matches_124 rfl ?_
            refine MV.ast C12_in51 dX12_matches_126 (rfl) (by omega) (by decide) ?_
            refine MV.aload_n dX12_matches_127 rfl ?_
            refine MV.iload_n dX12_matches_128 rfl ?_
            refine MV.iconst (v := 1) dX12_matches_129 (by decide) ?_
            refine MV.iadd dX12_matches_130 ?_
            refine MV.eqi (nI (p + 1)) (nI_1 p) ?_
            refine MV.iload_n dX12_matches_131 rfl ?_
            refine MV.iconst (v := 1) dX12_matches_132 (by decide) ?_
            refine MV.iload dX12_matches_133 rfl ?_
            refine MV.ishl dX12_matches_135 ?_
            refine MV.ior dX12_matches_136 ?_
            refine MV.iload_n dX12_matches_137 rfl ?_
            refine MV.iconst (v := 1) dX12_matches_138 (by decide) ?_
            refine MV.iadd dX12_matches_139 ?_
            refine MV.eqi (nI (sc + 1)) (nI_1 sc) ?_
            refine MV.cV3 yoX12_matches ml_X12_481 im_X12_matches se_X12_matches dX12_matches_140 rfl (Nat.le_of_ble_eq_true rfl) (by omega) rfl (Nat.le_of_ble_eq_true rfl) (ihj (p + 1) (u ||| bitM x) (sc + 1) (upd A p (nI x)) o2 _ (mA s2 51 p (nI x)) (by omega) (by omega) (by omega) (frX.R (frX.a (by decide)) hR2) ⟨hM2.1, fun q hq => (congrFun (mA_ne (by decide)) q).trans (hM2.2 q hq)⟩ (preA hA2) rfl) ?_
            rintro _ s3 ⟨rfl, Mx, h51, f3⟩
            have fx0 : frX s2 s3 := (frX.a (by decide)).tr f3
            have hRx := frX.R fx0 hR2
            have fx := f2.tr fx0
            have Ax : ∀ q, q < p → s3.2.1 51 q = A q := fun q hq => ((h51 q (by omega)).trans (by rw [mA_at, if_neg (by omega)])).trans (hA2 q hq)
            have hvx : stp (stp o2 (shO ((sc + 1 : Nat) : Int) (mgF (okM T c) n j (p + 1) (u ||| bitM x) (upd A p (nI x))))) (shO sc (bsF f z k (x + 1))) = R := by rw [← hv, bs_some hf]; rfl
            refine MV.iinc (v := 1) dX12_matches_143 rfl (by decide) (by decide) rfl ?_
            refine MV.goto 85 dX12_matches_146 (by decide) ?_
            refine MV.weak [some (.ref a), some (.int (nI p)), some (.int (u)), some (.int (nI sc)), some (.int (okW T c p u)), some (.int (nI (x + 1)))] (by simp [leL, sto1, sto2, k2c, nI_1]) ?_
            exact ih (x + 1) _ _ (by omega) hRx fx Mx Ax hvx
          · skip
            have q113 : cLeft c x = 0 := (hR2.2.1.left hR2.1 (by omega)).1.symm.trans c113
            have hf : f x = none := by
              rw [hfd]
              exact if_neg (fun z => by unfold okM at z; have dq : decide (¬ cLeft c x = 0) = false := decide_eq_false (fun q => q q113); rw [dq, Bool.and_false] at z; exact absurd z (by decide))
            have hRx := hR2
            have fx := f2
            have Mx := hM2
            have Ax := hA2
            have hvx : stp o2 (shO sc (bsF f z k (x + 1))) = R := by rw [← bs_none hf]; exact hv
            refine MV.goto 143 dX12_matches_116 (by decide) ?_
            refine MV.iinc (v := 1) dX12_matches_143 rfl (by decide) (by decide) rfl ?_
            refine MV.goto 85 dX12_matches_146 (by decide) ?_
            refine MV.weak [some (.ref a), some (.int (nI p)), some (.int (u)), some (.int (nI sc)), some (.int (okW T c p u)), some (.int (nI (x + 1)))] (by simp [leL, sto1, sto2, k2c, nI_1]) ?_
            exact ih (x + 1) _ _ (by omega) hRx fx Mx Ax hvx
    refine MV.iload_n dX12_matches_0 rfl ?_
    refine MV.aload_n dX12_matches_1 rfl ?_
    refine MV.getf 3 fl_X12_13 dX12_matches_2 (by decide) rfl ?_
    refine MV.iconst (v := nI 0) dX12_matches_5 (by decide) ?_
    refine MV.ald C12_in3 dX12_matches_6 (rfl) (by omega) (by decide) ?_
    refine MV.icmp_ne 54 dX12_matches_7 (by decide) (fun _ => ?_) (fun z => absurd z (by rw [e0]; exact fun z => Int32.lt_irrefl (by have := nI_lt (a := p) (b := nat (T.1.1 0)) (by omega) (by omega); rw [z] at this; exact this)))
    refine MV.aload_n dX12_matches_54 rfl ?_
    refine MV.iload_n dX12_matches_55 rfl ?_
    refine MV.aload_n dX12_matches_56 rfl ?_
    refine MV.iconst (v := nI 0) dX12_matches_57 (by decide) ?_
    refine MV.cV1 yoX12_litOnes ml_X12_410 im_X12_litOnes se_X12_litOnes dX12_matches_58 rfl (Nat.le_of_ble_eq_true rfl) (by omega) rfl (Nat.le_of_ble_eq_true rfl) (litOnes_M (r := 0) (by omega) (by decide) e0 (by omega)) (MV.rdK ?_)
    refine MV.eqi (litM (c.2.1 5) (nat (T.1.1 0))) (litM_congr fun q hq => by rw [show 6 * 0 + q = q by omega]; exact (hRm.2.1.r0 (by omega)).2.2.1.symm) ?_
    refine MV.cV2 yoX12_doesSee ml_X12_413 im_X12_doesSee se_X12_doesSee dX12_matches_61 rfl (Nat.le_of_ble_eq_true rfl) (by omega) rfl (Nat.le_of_ble_eq_true rfl) (doesSee_M (n := nat (s.2.1 3 4)) (by omega) hl.1.1 (by have := hl.1.2; omega)) (MV.rdK ?_)
    refine MV.if_eq 71 dX12_matches_64 (by decide) (fun c64 => ?_) (fun c64 => ?_)
    · skip
      have hs : seesB (litM (c.2.1 5) (nat (T.1.1 0))) (T.1.2.1 4 p) p = false := by rw [hl.2.2.2 p (by omega)]; exact bI_f c64
      have hw : okW T c p u = T.1.2.1 4 p &&& (u ^^^ (-1)) := by rw [okW, hs]; rfl
      refine MV.aload_n dX12_matches_71 rfl ?_
      refine MV.iload_n dX12_matches_72 rfl ?_
      refine MV.cV1 yoX12_lendersOf ml_X12_350 im_X12_lendersOf se_X12_lendersOf dX12_matches_73 rfl (Nat.le_of_ble_eq_true rfl) (by omega) rfl (Nat.le_of_ble_eq_true rfl) (lenders_M (n := nat (s.2.1 3 4)) (by omega) hl.1.1 (by have := hl.1.2; omega)) (MV.rdK ?_)
      refine MV.iload_n dX12_matches_76 rfl ?_
      refine MV.iconst (v := (-1)) dX12_matches_77 (by decide) ?_
      refine MV.ixor dX12_matches_78 ?_
      refine MV.iand dX12_matches_79 ?_
      refine MV.eqi (okW T c p u) (by first | exact hw.symm | (rw [hw, hl.2.2.2 p (by omega)])) ?_
      refine MV.istore dX12_matches_80 (by decide) rfl ?_
      refine MV.iconst (v := nI 0) dX12_matches_82 (by decide) ?_
      refine MV.istore dX12_matches_83 (by decide) rfl ?_
      exact hL n 0 o s (by omega) hRm frX.rf hM hA hRR
    · skip
      have hs : seesB (litM (c.2.1 5) (nat (T.1.1 0))) (T.1.2.1 4 p) p = true := by rw [hl.2.2.2 p (by omega)]; exact bI_t c64
      have hw : okW T c p u = 0 := by rw [okW, if_pos hs]
      refine MV.iconst (v := 0) dX12_matches_67 (by decide) ?_
      refine MV.goto 80 dX12_matches_68 (by decide) ?_
      refine MV.eqi (okW T c p u) (by first | exact hw.symm | (rw [hw, hl.2.2.2 p (by omega)])) ?_
      refine MV.istore dX12_matches_80 (by decide) rfl ?_
      refine MV.iconst (v := nI 0) dX12_matches_82 (by decide) ?_
      refine MV.istore dX12_matches_83 (by decide) rfl ?_
      exact hL n 0 o s (by omega) hRm frX.rf hM hA hRR
def mgA (T : Tx) (c : St) : Ops := mgF (okM T c) (nat (T.1.1 0)) (nat (T.1.1 0)) 0 0 (fun _ => 0)
def aMatch (T : Tx) (c : St) (x : Int32) : Int32 := if ¬ x < 0 ∧ ¬ 6 < x then (if x = 6 then Int32.ofInt (mgA T c).1 else if x < T.1.1 0 then (mgA T c).2 (nat x) else -2) else -1
theorem stp_pos {a b : Ops} (h : 0 ≤ a.1) (k : 0 ≤ b.1) : 0 ≤ (stp a b).1 := by
  unfold stp
  split
  · exact k
  · exact h
theorem bs_pos {f : Nat → Option Ops} {z : Ops} (h : ∀ x o, f x = some o → 0 ≤ o.1) (hz : 0 ≤ z.1) : ∀ k x, 0 ≤ (bsF f z k x).1 := by
  intro k
  induction k with
  | zero => intro x; exact hz
  | succ k ih =>
    intro x
    rw [bsF]
    split
    · rename_i o e
      exact stp_pos (by have := h x o e; show 0 ≤ 1 + o.1; omega) (ih _)
    · exact ih _
theorem mg_pos {ok : Nat → Int32 → Nat → Bool} {N : Nat} : ∀ j p u A, 0 ≤ (mgF ok N j p u A).1 := by
  intro j
  induction j with
  | zero => intro p u A; exact Int.le_refl 0
  | succ j ih =>
    intro p u A
    rw [mgF]
    refine bs_pos (fun x o e => ?_) (ih _ _ _) _ _
    by_cases q : ok p u x = true
    · rw [if_pos q] at e
      rw [← Option.some.inj e]
      exact ih _ _ _
    · rw [if_neg q] at e
      exact absurd e (by simp)
set_option maxRecDepth 100000 in
set_option maxHeartbeats 2000000 in
theorem match_M {d n0 a : Nat} {κ : Kd} {h0 : Hp} (hd : 12 ≤ d) {T : Tx} {s c : St} (hR : Rm T s 0 c) {x : Int32} : MV MX12_match (d, 0, 0, n0, κ) a h0 s 0 [some (.ref a), some (.int (x))] [] (fun v s' => v = some (.int (aMatch T c x)) ∧ frX s s') := by
  obtain ⟨hn0, n6⟩ := lo0 hR
  have en : T.1.1 0 = nI (nat (T.1.1 0)) := by have := hR.1.1.1.1; rw [← hR.1.1.2.1] at this; exact this
  have hst : stp (-1, s.2.1 52) (shO ((0 : Nat) : Int) (mgF (okM T c) (nat (T.1.1 0)) (nat (T.1.1 0)) 0 0 (fun _ => 0))) = mgA T c := by
    have h := mg_pos (ok := okM T c) (N := nat (T.1.1 0)) (nat (T.1.1 0)) 0 0 (fun _ => 0)
    unfold stp
    rw [if_pos (by show (-1 : Int) < ((0 : Nat) : Int) + _; omega)]
    unfold shO mgA
    simp
  refine MV.aload_n dX12_match_0 rfl ?_
  refine MV.iconst (v := 0) dX12_match_1 (by decide) ?_
  refine MV.putf 0 fl_X12_148 dX12_match_2 (by decide) rfl (rfl) (rfl) C12_s0 ?_
  refine MV.iload_n dX12_match_5 rfl ?_
  refine MV.if_lt 15 dX12_match_6 (by decide) (fun c6 => ?_) (fun c6 => ?_)
  · skip
    have hA : aMatch T c x = -1 := by rw [aMatch, if_neg (fun z => z.1 c6)]
    refine MV.iconst (v := (-1)) dX12_match_15 (by decide) ?_
    refine MV.iret dX12_match_16 rfl ?_
    exact ⟨by rw [hA], frX.z⟩
  · skip
    refine MV.iload_n dX12_match_9 rfl ?_
    refine MV.bipush (v := 6) dX12_match_10 (by decide) ?_
    refine MV.icmp_le 17 dX12_match_12 (by decide) (fun c12 => ?_) (fun c12 => ?_)
    · skip
      have h12 : ¬ 6 < x := Int32.not_lt.mpr c12
      refine MV.aload_n dX12_match_17 rfl ?_
      refine MV.iconst (v := (-1)) dX12_match_18 (by decide) ?_
      refine MV.putf 53 fl_X12_478 dX12_match_19 (by decide) rfl (rfl) (rfl) C12_s53 ?_
      refine MV.aload_n dX12_match_22 rfl ?_
      refine MV.iconst (v := nI 0) dX12_match_23 (by decide) ?_
      refine MV.iconst (v := 0) dX12_match_24 (by decide) ?_
      refine MV.iconst (v := nI 0) dX12_match_25 (by decide) ?_
      refine MV.cV3 yoX12_matches ml_X12_481 im_X12_matches se_X12_matches dX12_match_26 rfl (Nat.le_of_ble_eq_true rfl) (by omega) rfl (Nat.le_of_ble_eq_true rfl) (matches_M (T := T) (c := c) (n := nat (T.1.1 0)) rfl (nat (T.1.1 0)) 0 0 0 (fun _ => 0) (-1, s.2.1 52) (mgA T c) (mI (mI s 0 0) 53 (-1)) (by omega) (by omega) (by omega) (show Rm T s 0 c from hR) ⟨(show (-1 : Int32).toInt = -1 by decide), fun _ _ => rfl⟩ (fun q hq => absurd hq (by omega)) hst) ?_
      rintro _ s2 ⟨rfl, ⟨hM1, hM2⟩, -, f2⟩
      have fx : frX s s2 := (frX.z.tr frX.m53).tr f2
      have e2 : s2.2.1 3 0 = nI (nat (T.1.1 0)) := (congrFun (fx.2.1 3 (by decide) (by decide) (by decide)) 0).trans hn0
      refine MV.iload_n dX12_match_29 rfl ?_
      refine MV.bipush (v := 6) dX12_match_30 (by decide) ?_
      refine MV.icmp_ne 42 dX12_match_32 (by decide) (fun c32 => ?_) (fun c32 => ?_)
      · skip
        have h6 : ¬ x = 6 := c32
        refine MV.iload_n dX12_match_42 rfl ?_
        refine MV.aload_n dX12_match_43 rfl ?_
        refine MV.getf 3 fl_X12_13 dX12_match_44 (by decide) rfl ?_
        refine MV.iconst (v := nI 0) dX12_match_47 (by decide) ?_
        refine MV.ald C12_in3 dX12_match_48 (rfl) (by omega) (by decide) ?_
        refine MV.icmp_ge 61 dX12_match_49 (by decide) (fun c49 => ?_) (fun c49 => ?_)
        · skip
          have h49 : ¬ x < T.1.1 0 := fun z => absurd c49 (Int32.not_le.mpr (by rw [e2, ← en]; exact z))
          have hA : aMatch T c x = -2 := by rw [aMatch, if_pos ⟨c6, h12⟩, if_neg h6, if_neg h49]
          refine MV.bipush (v := (-2)) dX12_match_61 (by decide) ?_
          refine MV.iret dX12_match_63 rfl ?_
          first
          | (refine ⟨?_, fx⟩; rw [hA, ← hM1, Int32.ofInt_toInt]; done)
          | (refine ⟨?_, fx⟩; rw [hA, ← hM2 q hqn]; done)
          | (refine ⟨?_, fx⟩; rw [hA]; done)
        · skip
          have h49 : x < T.1.1 0 := by rw [en, ← e2]; exact Int32.not_le.mp c49
          obtain ⟨q, hq, rfl⟩ := nI_of c6
          have hqn : q < nat (T.1.1 0) := Nat.not_le.mp fun z => absurd h49 (Int32.not_lt.mpr (by rw [en]; exact nI_le z hq))
          have hA : aMatch T c (nI q) = (mgA T c).2 q := by rw [aMatch, if_pos ⟨c6, h12⟩, if_neg h6, if_pos h49, show nat (nI q) = q from nI_clamp hq]
          refine MV.aload_n dX12_match_52 rfl ?_
          refine MV.getf 52 fl_X12_111 dX12_match_53 (by decide) rfl ?_
          refine MV.iload_n dX12_match_56 rfl ?_
          refine MV.ald C12_in52 dX12_match_57 (rfl) (by omega) (by decide) ?_
          refine MV.goto 63 dX12_match_58 (by decide) ?_
          refine MV.iret dX12_match_63 rfl ?_
          first
          | (refine ⟨?_, fx⟩; rw [hA, ← hM1, Int32.ofInt_toInt]; done)
          | (refine ⟨?_, fx⟩; rw [hA, ← hM2 q hqn]; done)
          | (refine ⟨?_, fx⟩; rw [hA]; done)
      · skip
        have hA : aMatch T c x = Int32.ofInt (mgA T c).1 := by rw [aMatch, if_pos ⟨c6, h12⟩, if_pos c32]
        refine MV.aload_n dX12_match_35 rfl ?_
        refine MV.getf 53 fl_X12_478 dX12_match_36 (by decide) rfl ?_
        refine MV.goto 63 dX12_match_39 (by decide) ?_
        refine MV.iret dX12_match_63 rfl ?_
        first
        | (refine ⟨?_, fx⟩; rw [hA, ← hM1, Int32.ofInt_toInt]; done)
        | (refine ⟨?_, fx⟩; rw [hA, ← hM2 q hqn]; done)
        | (refine ⟨?_, fx⟩; rw [hA]; done)
    · skip
      have h12 : 6 < x := Int32.not_le.mp c12
      have hA : aMatch T c x = -1 := by rw [aMatch, if_neg (fun z => z.2 h12)]
      refine MV.iconst (v := (-1)) dX12_match_15 (by decide) ?_
      refine MV.iret dX12_match_16 rfl ?_
      exact ⟨by rw [hA], frX.z⟩
