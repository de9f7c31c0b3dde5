/-! The model: isSo, fitsLength, lengthsOf, lengths -/
/-- what is struck, from the last known one back -/
def oF (f : Nat → Int32) : Nat → (Nat → Bool) → Nat → Bool
  | 0, o => o
  | k + 1, o => if o k = true then oF f k o else if f k = -1 then oF f k o else oF f k (fun j => if j = nat (f k) then true else o j)
def mkn (F : St) : Nat := nat (fBy F)
def outF (F : St) : Nat → Bool := oF (F.2.1 6) (mkn F) (fun _ => false)
def ctd (F : St) (i : Nat) : Bool := !(outF F i) && decide (F.2.1 6 i = -1)
def mLat (F : St) : Nat → Int32
  | 0 => 0
  | i + 1 => if ctd F i = true then cMax (mLat F i) (F.2.1 2 i) else mLat F i
def mSoF (F c : St) (h : Int32) : Nat → Nat → Bool
  | 0, _ => true
  | k + 1, i => if ctd F i = true ∧ F.2.1 2 i = h ∧ ¬ bI (cIsLeft c (nat (F.2.1 3 i)) (F.2.1 4 i)) = F.2.1 5 i then false else mSoF F c h k (i + 1)
def mFitF (T : Tx) (F : St) : Nat → Nat → St → Bool
  | 0, _, _ => true
  | k + 1, h, c => if mSoF F (passS T (kW 0) 63 true c) (nI h) (mkn F) 0 = true then mFitF T F k (h + 1) (passS T (kW 0) 63 true c) else false
def begL (T : Tx) (p L : Nat) : St := ((cBegin T.1 T.1).1, uA (cBegin T.1 T.1).2.1 1 p (nI L), (cBegin T.1 T.1).2.2)
def mLenF (T : Tx) (F : St) (p lat : Nat) : Nat → Int32
  | 0 => 0
  | L + 1 => mLenF T F p lat L ||| (if mFitF T F lat 1 (begL T p (L + 1)) = true then bitM L else 0)
def mLenA (T : Tx) (F : St) (p : Nat) : Int32 := mLenF T F p (nat (mLat F (mkn F))) 30
theorem facR.kn {T : Tx} {s F : St} (h : facR T s F) : fBy F = nI (mkn F) ∧ mkn F ≤ nat (F.1 0) ∧ mkn F ≤ 24 ∧ (if s.1 56 = -1 then s.1 55 else s.1 56) = nI (mkn F) := by
  obtain ⟨h1, h2, h3, h4, h5, h6⟩ := h
  have hl := h1.2
  have e : fBy F = (if s.1 56 = -1 then s.1 55 else s.1 56) := by unfold fBy; rw [h2, h3]
  unfold mkn
  rw [← e]
  unfold fBy
  by_cases q : F.1 1 = -1
  · rw [if_pos q]
    exact ⟨h1.1, Nat.le_refl _, by omega, h1.1⟩
  · rw [if_neg q]
    rcases h4 with z | ⟨k, z, zl⟩
    · exact absurd z q
    · have : nat (F.1 1) = k := by rw [z]; exact nI_clamp (by omega)
      rw [this]
      exact ⟨z, zl, by omega, z⟩
theorem relC.isL {T : Tx} {s c : St} {r p : Nat} {x : Int32} (h : relC T s r c) (hp : p < nat (T.1.1 0)) (hp6 : p < 6) : mIsL s r p x = cIsLeft c p x := by
  obtain ⟨a0, a1, a2, a3, a4, a5, a6⟩ := h
  obtain ⟨b1, b2, b3, b4⟩ := a5 p hp6
  unfold mIsL isLB cIsLeft
  rw [(a6 p hp).1, b1, b2]
theorem so_no {F c : St} {h : Int32} {k i : Nat} (q : ¬ (ctd F i = true ∧ F.2.1 2 i = h ∧ ¬ bI (cIsLeft c (nat (F.2.1 3 i)) (F.2.1 4 i)) = F.2.1 5 i)) : mSoF F c h (k + 1) i = mSoF F c h k (i + 1) := by
  rw [mSoF, if_neg q]
/-- the FACTS in a state that a question has changed -/
theorem facR.R {T : Tx} {s s' F : St} {r : Nat} (h : facR T s F) (f : frR r s s') : facR T s' F := h.fr (f.1 55 (by decide)) (f.1 56 (by decide)) (fun k a b => f.2.1 k (by omega))
set_option maxRecDepth 100000 in
set_option maxHeartbeats 2000000 in
theorem isSo_M {d n0 a : Nat} {κ : Kd} {h0 : Hp} (hd : 3 ≤ d) {T : Tx} {s F c : St} (hF : facR T s F) (hR : Rm T s 1 c) (hO : ∀ i, i < mkn F → s.2.1 62 i = bI (outF F i)) {t : Nat} : MV MX12_isSo (d, 0, 0, n0, κ) a h0 s 0 [some (.ref a), some (.int (nI t)), none] [] (mR s (.int (bI (mSoF F c (nI t) (mkn F) 0)))) := by
  obtain ⟨k1, k2, k3, k4⟩ := hF.kn
  have hs24 := hF.1.2
  suffices hL : ∀ (k i : Nat), i + k = mkn F → mSoF F c (nI t) k i = mSoF F c (nI t) (mkn F) 0 → MV MX12_isSo (d, 0, 0, n0, κ) a h0 s 2 [some (.ref a), some (.int (nI t)), some (.int (nI i))] [] (mR s (.int (bI (mSoF F c (nI t) (mkn F) 0)))) from by
    skip
    refine MV.iconst (v := nI 0) dX12_isSo_0 (by decide) ?_
    refine MV.istore_n dX12_isSo_1 (by decide) rfl ?_
    exact hL (mkn F) 0 (by omega) rfl
  obtain ⟨R, hRd⟩ : ∃ R, R = mSoF F c (nI t) (mkn F) 0 := ⟨_, rfl⟩
  rw [← hRd]
  intro k
  induction k with
  | zero =>
    intro i hik hv
    skip
    refine MV.iload_n dX12_isSo_2 rfl ?_
    refine MV.aload_n dX12_isSo_3 rfl ?_
    refine MV.cV0 yoX12_knownMany ml_X12_511 im_X12_knownMany se_X12_knownMany dX12_isSo_4 rfl (Nat.le_of_ble_eq_true rfl) (by omega) rfl (Nat.le_of_ble_eq_true rfl) (knownMany_M (by omega)) (MV.rdK ?_)
    refine MV.eqi (nI (mkn F)) k4 ?_
    refine MV.icmp_ge 76 dX12_isSo_7 (by decide) (fun _ => ?_) (fun z => absurd (nI_le (by omega) (by omega)) z)
    refine MV.iconst (v := (bI true)) dX12_isSo_76 (by decide) ?_
    refine MV.zret .boolean dX12_isSo_77 rfl (bI_n _) ?_
    exact ⟨by rw [← hv]; rfl, rfl⟩
  | succ k ih =>
    intro i hik hv
    obtain ⟨e1, e0, e3, e4, e5⟩ := hF.2.2.2.2.1 i (by omega)
    refine MV.iload_n dX12_isSo_2 rfl ?_
    refine MV.aload_n dX12_isSo_3 rfl ?_
    refine MV.cV0 yoX12_knownMany ml_X12_511 im_X12_knownMany se_X12_knownMany dX12_isSo_4 rfl (Nat.le_of_ble_eq_true rfl) (by omega) rfl (Nat.le_of_ble_eq_true rfl) (knownMany_M (by omega)) (MV.rdK ?_)
    refine MV.eqi (nI (mkn F)) k4 ?_
    refine MV.icmp_ge 76 dX12_isSo_7 (by decide) (fun z => absurd z (nI_ge (by omega) (by omega))) (fun _ => ?_)
    refine MV.aload_n dX12_isSo_10 rfl ?_
    refine MV.getf 62 fl_X12_136 dX12_isSo_11 (by decide) rfl ?_
    refine MV.iload_n dX12_isSo_14 rfl ?_
    skip
    refine MV.zld C12_in62 dX12_isSo_15 (rfl) (by omega) (by decide) ?_
    refine MV.if_ne 70 dX12_isSo_16 (by decide) (fun c16 => ?_) (fun c16 => ?_)
    · skip
      have hq : ¬ (ctd F i = true ∧ F.2.1 2 i = nI t ∧ ¬ bI (cIsLeft c (nat (F.2.1 3 i)) (F.2.1 4 i)) = F.2.1 5 i) := fun z => by
        have := z.1
        unfold ctd at this
        rw [show outF F i = true from Classical.byContradiction fun q => c16 ((hO i (by omega)).trans (by rw [Bool.eq_false_iff.mpr q]; rfl))] at this
        exact absurd this (by simp)
      refine MV.iinc (v := 1) dX12_isSo_70 rfl (by decide) (by decide) rfl ?_
      refine MV.goto 2 dX12_isSo_73 (by decide) ?_
      exact MV.weak [some (.ref a), some (.int (nI t)), some (.int (nI (i + 1)))] (by simp [leL, sto1, sto2, k2c, nI_1]) (ih (i + 1) (by omega) ((so_no hq).symm.trans hv))
    · skip
      have ho : outF F i = false := bI_f ((hO i (by omega)).symm.trans c16)
      refine MV.aload_n dX12_isSo_19 rfl ?_
      refine MV.getf 61 fl_X12_133 dX12_isSo_20 (by decide) rfl ?_
      refine MV.iload_n dX12_isSo_23 rfl ?_
      refine MV.ald C12_in61 dX12_isSo_24 (rfl) (by omega) (by decide) ?_
      refine MV.iconst (v := (-1)) dX12_isSo_25 (by decide) ?_
      refine MV.icmp_ne 70 dX12_isSo_26 (by decide) (fun c26 => ?_) (fun c26 => ?_)
      · skip
        have hq : ¬ (ctd F i = true ∧ F.2.1 2 i = nI t ∧ ¬ bI (cIsLeft c (nat (F.2.1 3 i)) (F.2.1 4 i)) = F.2.1 5 i) := fun z => by
          have := z.1
          unfold ctd at this
          rw [Bool.and_eq_true, decide_eq_true_eq] at this
          exact c26 (e5.trans this.2)
        refine MV.iinc (v := 1) dX12_isSo_70 rfl (by decide) (by decide) rfl ?_
        refine MV.goto 2 dX12_isSo_73 (by decide) ?_
        exact MV.weak [some (.ref a), some (.int (nI t)), some (.int (nI (i + 1)))] (by simp [leL, sto1, sto2, k2c, nI_1]) (ih (i + 1) (by omega) ((so_no hq).symm.trans hv))
      · skip
        have e6 : F.2.1 6 i = -1 := e5.symm.trans c26
        have hc : ctd F i = true := by unfold ctd; rw [ho, decide_eq_true e6]; rfl
        obtain ⟨p, ep, hp, hp6⟩ : ∃ p, F.2.1 3 i = nI p ∧ p < nat (T.1.1 0) ∧ p < 6 := by
          rcases hF.2.2.2.2.2 i (by omega) with z | z
          · have h7 := hR.1.1.1.2
            have en := hR.1.1.2.1
            exact ⟨_, z.2.1.1, z.2.1.2, by have := z.2.1.2; rw [en] at this; omega⟩
          · rw [e6] at z; exact absurd z.1 (by rw [show nat (-1) = 0 by decide]; decide)
        have enp : nat (F.2.1 3 i) = p := by rw [ep]; exact nI_clamp (by omega)
        refine MV.aload_n dX12_isSo_29 rfl ?_
        refine MV.getf 57 fl_X12_120 dX12_isSo_30 (by decide) rfl ?_
        refine MV.iload_n dX12_isSo_33 rfl ?_
        refine MV.ald C12_in57 dX12_isSo_34 (rfl) (by omega) (by decide) ?_
        refine MV.iload_n dX12_isSo_35 rfl ?_
        refine MV.icmp_eq 42 dX12_isSo_36 (by decide) (fun c36 => ?_) (fun c36 => ?_)
        · skip
          have e2 : F.2.1 2 i = nI t := e1.symm.trans c36
          refine MV.aload_n dX12_isSo_42 rfl ?_
          refine MV.iconst (v := nI 1) dX12_isSo_43 (by decide) ?_
          refine MV.aload_n dX12_isSo_44 rfl ?_
          refine MV.getf 58 fl_X12_123 dX12_isSo_45 (by decide) rfl ?_
          refine MV.iload_n dX12_isSo_48 rfl ?_
          refine MV.ald C12_in58 dX12_isSo_49 (rfl) (by omega) (by decide) ?_
          refine MV.eqi (nI p) (e0.trans ep) ?_
          refine MV.aload_n dX12_isSo_50 rfl ?_
          refine MV.getf 59 fl_X12_126 dX12_isSo_51 (by decide) rfl ?_
          refine MV.iload_n dX12_isSo_54 rfl ?_
          refine MV.ald C12_in59 dX12_isSo_55 (rfl) (by omega) (by decide) ?_
          refine MV.cV3 yoX12_isLeft ml_X12_346 im_X12_isLeft se_X12_isLeft dX12_isSo_56 rfl (Nat.le_of_ble_eq_true rfl) (by omega) rfl (Nat.le_of_ble_eq_true rfl) (mIsL_M (r := 1) (by omega) (by decide) hp6) (MV.rdK ?_)
          refine MV.aload_n dX12_isSo_59 rfl ?_
          refine MV.getf 60 fl_X12_129 dX12_isSo_60 (by decide) rfl ?_
          refine MV.iload_n dX12_isSo_63 rfl ?_
          refine MV.zld C12_in60 dX12_isSo_64 (rfl) (by omega) (by decide) ?_
          refine MV.icmp_eq 70 dX12_isSo_65 (by decide) (fun c65 => ?_) (fun c65 => ?_)
          · skip
            have hq : ¬ (ctd F i = true ∧ F.2.1 2 i = nI t ∧ ¬ bI (cIsLeft c (nat (F.2.1 3 i)) (F.2.1 4 i)) = F.2.1 5 i) := fun z => z.2.2 (by rw [enp, ← hR.2.1.isL hp hp6, ← e3, ← e4]; exact c65)
            refine MV.iinc (v := 1) dX12_isSo_70 rfl (by decide) (by decide) rfl ?_
            refine MV.goto 2 dX12_isSo_73 (by decide) ?_
            exact MV.weak [some (.ref a), some (.int (nI t)), some (.int (nI (i + 1)))] (by simp [leL, sto1, sto2, k2c, nI_1]) (ih (i + 1) (by omega) ((so_no hq).symm.trans hv))
          · skip
            have hh : ¬ bI (cIsLeft c (nat (F.2.1 3 i)) (F.2.1 4 i)) = F.2.1 5 i := fun z => c65 (by rw [e4, hR.2.1.isL hp hp6, e3, ← enp]; exact z)
            have hA : R = false := by
              rw [← hv, mSoF, if_pos ⟨hc, e2, hh⟩]
            refine MV.iconst (v := (bI false)) dX12_isSo_68 (by decide) ?_
            refine MV.zret .boolean dX12_isSo_69 rfl (bI_n _) ?_
            exact ⟨by rw [hA], rfl⟩
        · skip
          have hq : ¬ (ctd F i = true ∧ F.2.1 2 i = nI t ∧ ¬ bI (cIsLeft c (nat (F.2.1 3 i)) (F.2.1 4 i)) = F.2.1 5 i) := fun z => c36 (e1.trans z.2.1)
          refine MV.goto 70 dX12_isSo_39 (by decide) ?_
          refine MV.iinc (v := 1) dX12_isSo_70 rfl (by decide) (by decide) rfl ?_
          refine MV.goto 2 dX12_isSo_73 (by decide) ?_
          exact MV.weak [some (.ref a), some (.int (nI t)), some (.int (nI (i + 1)))] (by simp [leL, sto1, sto2, k2c, nI_1]) (ih (i + 1) (by omega) ((so_no hq).symm.trans hv))
theorem begL_in {T : Tx} {p L q : Nat} : (begL T p L).2.1 1 q = if q = p then nI L else T.1.2.1 2 q := by
  show uA (cBegin T.1 T.1).2.1 1 p (nI L) 1 q = _
  rw [uA_at]
  rfl
theorem begL_row {T : Tx} {p L k q : Nat} (h : 3 ≤ k) (h2 : k ≤ 6) : (begL T p L).2.1 k q = 0 := by
  show uA (cBegin T.1 T.1).2.1 1 p (nI L) k q = _
  rw [uA_miss (by omega)]
  have : k = 3 ∨ k = 4 ∨ k = 5 ∨ k = 6 := by omega
  rcases this with rfl | rfl | rfl | rfl <;> rfl
theorem begL_Rm {T : Tx} {s s2 : St} {p L : Nat} (hT : relT T s.2.1) (hp6 : p < 6) (hL : L ≤ 60) (h48 : s.1 48 = nI p) (h49 : s.1 49 = nI L) (f : frR 1 s s2) (hf : s2.2.1 36 1 = 0 ∧ s2.2.1 37 1 = s.2.1 3 6 ∧ s2.2.1 38 1 = 0 ∧ s2.2.1 39 1 = 0) (hz : ∀ k p, 40 ≤ k → k ≤ 43 → p < 6 → s2.2.1 k (6 * 1 + p) = 0) : Rm T s2 1 (begL T p L) := by
  have hn6 := hT.1.1.2
  have en := hT.1.2.1
  refine ⟨f.T hT, relC.begun hT f hf hz rfl rfl rfl rfl rfl (fun k q a b _ => begL_row a b) (fun q hq => ⟨?_, rfl⟩), fun q hq => ?_⟩
  · have hq6 : q < 7 := by rw [en] at hq; omega
    rw [begL_in, mIn, h48, h49]
    by_cases e : q = p
    · rw [if_pos e, if_pos (by rw [e])]
    · have hne : ¬ nI q = nI p := fun z => e (by
        have := congrArg nat z
        rw [show nat (nI q) = q from nI_clamp (by omega), show nat (nI p) = p from nI_clamp (by omega)] at this
        exact this)
      rw [if_neg e, if_neg hne]
      exact (hT.1.2.2 q (by rw [← en]; exact hq)).2.1
  · have h5 := (hT.1.2.2 q (by rw [← en]; exact hq)).2
    refine ⟨if q = p then L else nat (s.2.1 5 q), 0, 0, ?_, begL_row (by decide) (by decide), begL_row (by decide) (by decide), by omega, ?_, ?_⟩
    · rw [begL_in]
      by_cases e : q = p
      · rw [if_pos e, if_pos e]
      · rw [if_neg e, if_neg e, h5.1]
        exact h5.2.1
    · have := h5.2.2
      split <;> omega
    · rw [begL_row (by decide) (by decide)]
      exact okN.of (n := 0) rfl (by decide) (by decide)
set_option maxRecDepth 100000 in
set_option maxHeartbeats 2000000 in
theorem fitsLength_M {d n0 a : Nat} {κ : Kd} {h0 : Hp} (hd : 7 ≤ d) {T : Tx} {s F : St} {p L lat : Nat} {R : Bool} (hw : wfT T) (hT : relT T s.2.1) (hF : facR T s F) (h46 : s.1 46 = 0) (h48 : s.1 48 = nI p) (h49 : s.1 49 = nI L) (hp6 : p < 6) (hL60 : L ≤ 60) (hlat : lat ≤ 60) (hO : ∀ i, i < mkn F → s.2.1 62 i = bI (outF F i)) (hR : mFitF T F lat 1 (begL T p L) = R) : MV MX12_fitsLength (d, 0, 0, n0, κ) a h0 s 0 [some (.ref a), some (.int (nI lat)), none] [] (fun v s' => v = some (.int (bI R)) ∧ frR 1 s s') := by
  have hL : ∀ (k h : Nat) (s2 e : St), h + k = lat + 1 → Rm T s2 1 e → frR 1 s s2 → mFitF T F k h e = R → MV MX12_fitsLength (d, 0, 0, n0, κ) a h0 s2 7 [some (.ref a), some (.int (nI lat)), some (.int (nI h))] [] (fun v s' => v = some (.int (bI R)) ∧ frR 1 s s') := by
    intro k
    induction k with
    | zero =>
      intro h s2 e hhk hR2 f2 hv
      refine MV.iload_n dX12_fitsLength_7 rfl ?_
      refine MV.iload_n dX12_fitsLength_8 rfl ?_
      refine MV.icmp_gt 34 dX12_fitsLength_9 (by decide) (fun _ => ?_) (fun z => absurd (nI_lt (by omega) (by omega)) z)
      refine MV.iconst (v := (bI true)) dX12_fitsLength_34 (by decide) ?_
      refine MV.zret .boolean dX12_fitsLength_35 rfl (bI_n _) ?_
      exact ⟨by rw [← hv]; rfl, f2⟩
    | succ k ih =>
      intro h s2 e hhk hR2 f2 hv
      refine MV.iload_n dX12_fitsLength_7 rfl ?_
      refine MV.iload_n dX12_fitsLength_8 rfl ?_
      refine MV.icmp_gt 34 dX12_fitsLength_9 (by decide) (fun z => absurd z (nI_nlt (by omega) (by omega))) (fun _ => ?_)
      refine MV.aload_n dX12_fitsLength_12 rfl ?_
      refine MV.iconst (v := nI 1) dX12_fitsLength_13 (by decide) ?_
      refine MV.iconst (v := (bI false)) dX12_fitsLength_14 (by decide) ?_
      refine MV.cV2 yoX12_passes ml_X12_421 im_X12_passes se_X12_passes dX12_fitsLength_15 rfl (Nat.le_of_ble_eq_true rfl) (by omega) rfl (Nat.le_of_ble_eq_true rfl) (passes_M (T := T) (k := kW 0) (c := e) (byN := false) (by omega) (by decide) hw hR2 (relK0 (by rw [f2.1 46 (by decide)]; exact h46)) rfl) ?_
      rintro _ s3 ⟨rfl, hR3, f3⟩
      have f4 := f2.tr f3
      refine MV.aload_n dX12_fitsLength_18 rfl ?_
      refine MV.iload_n dX12_fitsLength_19 rfl ?_
      refine MV.cV1 yoX12_isSo ml_X12_514 im_X12_isSo se_X12_isSo dX12_fitsLength_20 rfl (Nat.le_of_ble_eq_true rfl) (by omega) rfl (Nat.le_of_ble_eq_true rfl) (isSo_M (T := T) (F := F) (c := passS T (kW 0) 63 true e) (t := h) (by omega) (hF.R f4) hR3 (fun i hi => (congrFun (f4.2.1 62 (by decide)) i).trans (hO i hi))) (MV.rdK ?_)
      refine MV.if_ne 28 dX12_fitsLength_23 (by decide) (fun c23 => ?_) (fun c23 => ?_)
      · skip
        have hs : mSoF F (passS T (kW 0) 63 true e) (nI h) (mkn F) 0 = true := bI_t c23
        refine MV.iinc (v := 1) dX12_fitsLength_28 rfl (by decide) (by decide) rfl ?_
        refine MV.goto 7 dX12_fitsLength_31 (by decide) ?_
        exact MV.weak [some (.ref a), some (.int (nI lat)), some (.int (nI (h + 1)))] (by simp [leL, sto1, sto2, k2c, nI_1]) (ih (h + 1) _ _ (by omega) hR3 f4 (by rw [← hv, mFitF, if_pos hs]))
      · skip
        have hs : mSoF F (passS T (kW 0) 63 true e) (nI h) (mkn F) 0 = false := bI_f c23
        have hA : R = false := by rw [← hv, mFitF, hs]; rfl
        refine MV.iconst (v := (bI false)) dX12_fitsLength_26 (by decide) ?_
        refine MV.zret .boolean dX12_fitsLength_27 rfl (bI_n _) ?_
        exact ⟨by rw [hA], f4⟩
  refine MV.aload_n dX12_fitsLength_0 rfl ?_
  refine MV.iconst (v := nI 1) dX12_fitsLength_1 (by decide) ?_
  refine MV.cV1 yoX12_starts ml_X12_337 im_X12_starts se_X12_starts dX12_fitsLength_2 rfl (Nat.le_of_ble_eq_true rfl) (by omega) rfl (Nat.le_of_ble_eq_true rfl) (starts_M (by omega) (by decide)) ?_
  rintro _ s2 ⟨rfl, f2, hf, hz⟩
  have hR2 := begL_Rm hT hp6 hL60 h48 h49 f2 hf hz
  refine MV.iconst (v := nI 1) dX12_fitsLength_5 (by decide) ?_
  refine MV.istore_n dX12_fitsLength_6 (by decide) rfl ?_
  exact hL lat 1 s2 _ (by omega) hR2 f2 hR
