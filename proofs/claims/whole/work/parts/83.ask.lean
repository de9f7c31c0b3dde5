/-! The model: lengthsOf, lengths, worstOf, ask -/
def frY (s s' : St) : Prop := (∀ j, j ≠ 0 → j ≠ 35 → j ≠ 48 → j ≠ 49 → j ≠ 53 → s'.1 j = s.1 j) ∧ (∀ k, ¬ (36 ≤ k ∧ k ≤ 43) → ¬ (50 ≤ k ∧ k ≤ 54) → ¬ (62 ≤ k ∧ k ≤ 64) → s'.2.1 k = s.2.1 k) ∧ (∀ k i, 36 ≤ k → k ≤ 39 → i ≠ 1 → s'.2.1 k i = s.2.1 k i) ∧ ∀ k i, 40 ≤ k → k ≤ 43 → (i < 6 ∨ 12 ≤ i) → s'.2.1 k i = s.2.1 k i
theorem frY.X {s s' : St} (h : frX s s') : frY s s' := ⟨fun j a b _ _ e => h.1 j a b e, h.2⟩
theorem frY.tr {s1 s2 s3 : St} (h : frY s1 s2) (k : frY s2 s3) : frY s1 s3 :=
  ⟨fun j a b c e f => (k.1 j a b c e f).trans (h.1 j a b c e f), fun j a b c => (k.2.1 j a b c).trans (h.2.1 j a b c), fun a b x y z => (k.2.2.1 a b x y z).trans (h.2.2.1 a b x y z), fun a b x y z => (k.2.2.2 a b x y z).trans (h.2.2.2 a b x y z)⟩
theorem frY.i {s : St} {j : Nat} {x : Int32} (h : j = 48 ∨ j = 49) : frY s (mI s j x) := ⟨fun q _ _ a b _ => upd_ne (by omega), fun _ _ _ _ => rfl, fun _ _ _ _ _ => rfl, fun _ _ _ _ _ => rfl⟩
/-- what the questions of LENGTHS may change -/
def frL (s s' : St) : Prop := frY s s' ∧ s'.1 48 = -1
theorem frY.T {T : Tx} {s s' : St} (h : frY s s') (hT : relT T s.2.1) : relT T s'.2.1 := hT.kept (fun k hk => h.2.1 k (by omega) (by omega) (by omega))
theorem facR.Y {T : Tx} {s s' F : St} (h : facR T s F) (f : frY s s') : facR T s' F := h.fr (f.1 55 (by decide) (by decide) (by decide) (by decide) (by decide)) (f.1 56 (by decide) (by decide) (by decide) (by decide) (by decide)) (fun k a b => f.2.1 k (by omega) (by omega) (by omega))
theorem mLat_ok {T : Tx} {s F : St} (h : facR T s F) : ∀ i, i ≤ mkn F → okN (mLat F i) 61 := by
  intro i
  induction i with
  | zero => intro _; exact okN.of (n := 0) rfl (by decide) (by decide)
  | succ i ih =>
    intro hi
    have h2 := h.kn
    unfold mLat
    by_cases q : ctd F i = true
    · rw [if_pos q]
      unfold cMax
      split
      · unfold ctd at q
        rw [Bool.and_eq_true, decide_eq_true_eq] at q
        rcases h.2.2.2.2.2 i (by omega) with z | z
        · exact z.2.2.2.1
        · rw [q.2] at z
          exact absurd z.1 (by rw [show nat (-1) = 0 by decide]; decide)
      · exact ih (by omega)
    · rw [if_neg q]
      exact ih (by omega)
def OR (F : St) (o : Nat → Bool) (s : St) : Prop := ∀ i, i < mkn F → s.2.1 62 i = bI (o i)
theorem OR.up {F s : St} {o : Nat → Bool} {j : Nat} (h : OR F o s) : OR F (fun i => if i = j then true else o i) (mA s 62 j (bI true)) := by
  intro i hi
  rw [mA_at]
  show _ = bI (if i = j then true else o i)
  by_cases e : i = j
  · rw [if_pos e, if_pos e]
  · rw [if_neg e, if_neg e]
    exact h i hi
theorem nI_nlt0 (k : Nat) (h : k < 2 ^ 31 := by omega) : ¬ nI k < 0 := fun z => by
  have := nI_pos' (n := k) h
  exact absurd z (Int32.not_lt.mpr this)
set_option maxRecDepth 100000 in
set_option maxHeartbeats 4000000 in
theorem lengthsOf_M {d n0 a : Nat} {κ : Kd} {h0 : Hp} (hd : 8 ≤ d) {T : Tx} {s F : St} (hqu : qui s) (hw : wfT T) (hT : relT T s.2.1) (hF : facR T s F) {p : Nat} (hp6 : p < 6) : MV MX12_lengthsOf (d, 0, 0, n0, κ) a h0 s 0 [some (.ref a), some (.int (nI p)), none, none, none] [] (fun v s' => v = some (.int (mLenA T F p)) ∧ frL s s') := by
  obtain ⟨k1, k2, k3, k4⟩ := hF.kn
  have hs24 := hF.1.2
  have h46 := hqu.1
  have hl := mLat_ok hF (mkn F) (Nat.le_refl _)
  obtain ⟨lat, elat', hlat⟩ : ∃ lat, mLat F (mkn F) = nI lat ∧ lat ≤ 60 := ⟨_, hl.1, by have := hl.2; omega⟩
  have elat : mLat F (mkn F) = nI lat := elat'
  have hlen : mLenA T F p = mLenF T F p lat 30 := by unfold mLenA; rw [elat, show nat (nI lat) = lat from nI_clamp (by omega)]
  rw [hlen]
  have hD : ∀ (k i : Nat) (s2 : St), i + k = 30 → frY s s2 → s2.1 48 = nI p → OR F (outF F) s2 → MV MX12_lengthsOf (d, 0, 0, n0, κ) a h0 s2 129 [some (.ref a), some (.int (nI p)), some (.int (nI lat)), some (.int (mLenF T F p lat i)), some (.int (nI i))] [] (fun v s' => v = some (.int (mLenF T F p lat 30)) ∧ frL s s') := by
    intro k
    induction k with
    | zero =>
      intro i s2 hik f2 h48 hO2
      have hi : i = 30 := by omega
      rw [hi]
      refine MV.iload dX12_lengthsOf_129 rfl ?_
      refine MV.bipush (v := 30) dX12_lengthsOf_131 (by decide) ?_
      refine MV.icmp_ge 169 dX12_lengthsOf_133 (by decide) (fun _ => ?_) (fun z => absurd (nI_le (a := 30) (b := 30) (by omega) (by omega)) z)
      refine MV.aload_n dX12_lengthsOf_169 rfl ?_
      refine MV.iconst (v := (-1)) dX12_lengthsOf_170 (by decide) ?_
      refine MV.putf 48 fl_X12_102 dX12_lengthsOf_171 (by decide) rfl (rfl) (rfl) C12_s48 ?_
      refine MV.iload_n dX12_lengthsOf_174 rfl ?_
      refine MV.iret dX12_lengthsOf_175 rfl ?_
      exact ⟨rfl, f2.tr (frY.i (by decide)), rfl⟩
    | succ k ih =>
      intro i s2 hik f2 h48 hO2
      refine MV.iload dX12_lengthsOf_129 rfl ?_
      refine MV.bipush (v := 30) dX12_lengthsOf_131 (by decide) ?_
      refine MV.icmp_ge 169 dX12_lengthsOf_133 (by decide) (fun z => absurd z (nI_ge (a := i) (b := 30) (by omega) (by omega))) (fun _ => ?_)
      refine MV.aload_n dX12_lengthsOf_136 rfl ?_
      refine MV.iload dX12_lengthsOf_137 rfl ?_
      refine MV.iconst (v := 1) dX12_lengthsOf_139 (by decide) ?_
      refine MV.iadd dX12_lengthsOf_140 ?_
      refine MV.eqi (nI (i + 1)) (nI_1 i) ?_
      refine MV.putf 49 fl_X12_340 dX12_lengthsOf_141 (by decide) rfl (rfl) (rfl) C12_s49 ?_
      refine MV.iload_n dX12_lengthsOf_144 rfl ?_
      refine MV.aload_n dX12_lengthsOf_145 rfl ?_
      refine MV.iload_n dX12_lengthsOf_146 rfl ?_
      refine MV.cV1 yoX12_fitsLength ml_X12_517 im_X12_fitsLength se_X12_fitsLength dX12_lengthsOf_147 rfl (Nat.le_of_ble_eq_true rfl) (by omega) rfl (Nat.le_of_ble_eq_true rfl) (fitsLength_M (s := mI s2 49 (nI (i + 1))) (T := T) (F := F) (p := p) (L := i + 1) (lat := lat) (by omega) hw (f2.T hT) ((hF.Y f2).Y (frY.i (by decide))) ((f2.1 46 (by decide) (by decide) (by decide) (by decide) (by decide)).trans h46) h48 rfl hp6 (by omega) hlat hO2 rfl) ?_
      rintro _ s3 ⟨rfl, f3⟩
      have f4 : frY s s3 := (f2.tr (frY.i (by decide))).tr (frY.X (frX.r1 f3))
      have h48' : s3.1 48 = nI p := (f3.1 48 (by decide)).trans h48
      have hO3 : OR F (outF F) s3 := fun q hq => (congrFun (f3.2.1 62 (by decide)) q).trans (hO2 q hq)
      refine MV.if_eq 160 dX12_lengthsOf_150 (by decide) (fun c150 => ?_) (fun c150 => ?_)
      · skip
        have hb : mFitF T F lat 1 (begL T p (i + 1)) = false := bI_f c150
        refine MV.iconst (v := 0) dX12_lengthsOf_160 (by decide) ?_
        refine MV.ior dX12_lengthsOf_161 ?_
        refine MV.istore_n dX12_lengthsOf_162 (by decide) rfl ?_
        refine MV.iinc (v := 1) dX12_lengthsOf_163 rfl (by decide) (by decide) rfl ?_
        refine MV.goto 129 dX12_lengthsOf_166 (by decide) ?_
        refine MV.weak [some (.ref a), some (.int (nI p)), some (.int (nI lat)), some (.int (mLenF T F p lat (i + 1))), some (.int (nI (i + 1)))] (by simp [leL, sto1, sto2, k2c, nI_1, mLenF, hb, bitM]) ?_
        exact ih (i + 1) s3 (by omega) f4 h48' hO3
      · skip
        have hb : mFitF T F lat 1 (begL T p (i + 1)) = true := bI_t c150
        refine MV.iconst (v := 1) dX12_lengthsOf_153 (by decide) ?_
        refine MV.iload dX12_lengthsOf_154 rfl ?_
        refine MV.ishl dX12_lengthsOf_156 ?_
        refine MV.goto 161 dX12_lengthsOf_157 (by decide) ?_
        refine MV.ior dX12_lengthsOf_161 ?_
        refine MV.istore_n dX12_lengthsOf_162 (by decide) rfl ?_
        refine MV.iinc (v := 1) dX12_lengthsOf_163 rfl (by decide) (by decide) rfl ?_
        refine MV.goto 129 dX12_lengthsOf_166 (by decide) ?_
        refine MV.weak [some (.ref a), some (.int (nI p)), some (.int (nI lat)), some (.int (mLenF T F p lat (i + 1))), some (.int (nI (i + 1)))] (by simp [leL, sto1, sto2, k2c, nI_1, mLenF, hb, bitM]) ?_
        exact ih (i + 1) s3 (by omega) f4 h48' hO3
  have hC : ∀ (k i : Nat) (s2 : St), i + k = mkn F → frY s s2 → OR F (outF F) s2 → MV MX12_lengthsOf (d, 0, 0, n0, κ) a h0 s2 75 [some (.ref a), some (.int (nI p)), some (.int (mLat F i)), some (.int (nI i)), none] [] (fun v s' => v = some (.int (mLenF T F p lat 30)) ∧ frL s s') := by
    intro k
    induction k with
    | zero =>
      intro i s2 hik f2 hO2
      rw [Nat.add_zero] at hik
      refine MV.iload_n dX12_lengthsOf_75 rfl ?_
      refine MV.aload_n dX12_lengthsOf_76 rfl ?_
      refine MV.cV0 yoX12_knownMany ml_X12_511 im_X12_knownMany se_X12_knownMany dX12_lengthsOf_77 rfl (Nat.le_of_ble_eq_true rfl) (by omega) rfl (Nat.le_of_ble_eq_true rfl) (knownMany_M (by omega)) (MV.rdK ?_)
      refine MV.eqi (nI (mkn F)) (hF.Y f2).kn.2.2.2 ?_
      refine MV.icmp_ge 119 dX12_lengthsOf_80 (by decide) (fun _ => ?_) (fun z => absurd (nI_le (by omega) (by omega)) z)
      refine MV.iconst (v := 0) dX12_lengthsOf_119 (by decide) ?_
      refine MV.istore_n dX12_lengthsOf_120 (by decide) rfl ?_
      refine MV.aload_n dX12_lengthsOf_121 rfl ?_
      refine MV.iload_n dX12_lengthsOf_122 rfl ?_
      refine MV.putf 48 fl_X12_102 dX12_lengthsOf_123 (by decide) rfl (rfl) (rfl) C12_s48 ?_
      refine MV.iconst (v := nI 0) dX12_lengthsOf_126 (by decide) ?_
      refine MV.istore dX12_lengthsOf_127 (by decide) rfl ?_
      refine MV.weak [some (.ref a), some (.int (nI p)), some (.int (nI lat)), some (.int (mLenF T F p lat 0)), some (.int (nI 0))] (by rw [hik, elat]; simp [leL, sto1, sto2, k2c]; rfl) ?_
      exact hD 30 0 _ (by omega) (f2.tr (frY.i (by decide))) rfl hO2
    | succ k ih =>
      intro i s2 hik f2 hO2
      obtain ⟨e1, e0, e3, e4, e5⟩ := (hF.Y f2).2.2.2.2.1 i (by omega)
      refine MV.iload_n dX12_lengthsOf_75 rfl ?_
      refine MV.aload_n dX12_lengthsOf_76 rfl ?_
      refine MV.cV0 yoX12_knownMany ml_X12_511 im_X12_knownMany se_X12_knownMany dX12_lengthsOf_77 rfl (Nat.le_of_ble_eq_true rfl) (by omega) rfl (Nat.le_of_ble_eq_true rfl) (knownMany_M (by omega)) (MV.rdK ?_)
      refine MV.eqi (nI (mkn F)) (hF.Y f2).kn.2.2.2 ?_
      refine MV.icmp_ge 119 dX12_lengthsOf_80 (by decide) (fun z => absurd z (nI_ge (by omega) (by omega))) (fun _ => ?_)
      refine MV.aload_n dX12_lengthsOf_83 rfl ?_
      refine MV.getf 62 fl_X12_136 dX12_lengthsOf_84 (by decide) rfl ?_
      refine MV.iload_n dX12_lengthsOf_87 rfl ?_
      refine MV.zld C12_in62 dX12_lengthsOf_88 (rfl) (by omega) (by decide) ?_
      refine MV.if_ne 113 dX12_lengthsOf_89 (by decide) (fun c89 => ?_) (fun c89 => ?_)
      · skip
        have hm : mLat F i = mLat F (i + 1) := by
          rw [mLat, if_neg (fun z => by unfold ctd at z; rw [show outF F i = true from Classical.byContradiction fun q => c89 ((hO2 i (by omega)).trans (by rw [Bool.eq_false_iff.mpr q]; rfl))] at z; exact absurd z (by simp))]
        refine MV.iinc (v := 1) dX12_lengthsOf_113 rfl (by decide) (by decide) rfl ?_
        refine MV.goto 75 dX12_lengthsOf_116 (by decide) ?_
        refine MV.weak [some (.ref a), some (.int (nI p)), some (.int (mLat F (i + 1))), some (.int (nI (i + 1))), none] (by simp [leL, sto1, sto2, k2c, nI_1]; exact hm) ?_
        exact ih (i + 1) s2 (by omega) f2 hO2
      · skip
        have ho : outF F i = false := bI_f ((hO2 i (by omega)).symm.trans c89)
        refine MV.aload_n dX12_lengthsOf_92 rfl ?_
        refine MV.getf 61 fl_X12_133 dX12_lengthsOf_93 (by decide) rfl ?_
        refine MV.iload_n dX12_lengthsOf_96 rfl ?_
        refine MV.ald C12_in61 dX12_lengthsOf_97 (rfl) (by omega) (by decide) ?_
        refine MV.iconst (v := (-1)) dX12_lengthsOf_98 (by decide) ?_
        refine MV.icmp_ne 113 dX12_lengthsOf_99 (by decide) (fun c99 => ?_) (fun c99 => ?_)
        · skip
          have hm : mLat F i = mLat F (i + 1) := by
            rw [mLat, if_neg (fun z => by unfold ctd at z; rw [Bool.and_eq_true, decide_eq_true_eq] at z; exact c99 (e5.trans z.2))]
          refine MV.iinc (v := 1) dX12_lengthsOf_113 rfl (by decide) (by decide) rfl ?_
          refine MV.goto 75 dX12_lengthsOf_116 (by decide) ?_
          refine MV.weak [some (.ref a), some (.int (nI p)), some (.int (mLat F (i + 1))), some (.int (nI (i + 1))), none] (by simp [leL, sto1, sto2, k2c, nI_1]; exact hm) ?_
          exact ih (i + 1) s2 (by omega) f2 hO2
        · skip
          have hcc : ctd F i = true := by unfold ctd; rw [ho, decide_eq_true (e5.symm.trans c99)]; rfl
          have hm : (if mLat F i < F.2.1 2 i then F.2.1 2 i else mLat F i) = mLat F (i + 1) := by
            show _ = if ctd F i = true then cMax (mLat F i) (F.2.1 2 i) else mLat F i
            rw [if_pos hcc]; rfl
          refine MV.iload_n dX12_lengthsOf_102 rfl ?_
          refine MV.aload_n dX12_lengthsOf_103 rfl ?_
          refine MV.getf 57 fl_X12_120 dX12_lengthsOf_104 (by decide) rfl ?_
          refine MV.iload_n dX12_lengthsOf_107 rfl ?_
          refine MV.ald C12_in57 dX12_lengthsOf_108 (rfl) (by omega) (by decide) ?_
          refine MV.eqi (F.2.1 2 i) e1 ?_
          refine MV.mmax ml_X12_459 st_J9_max_7cf53 ini_J9 co_J9_max_7cf53 dX12_lengthsOf_109 (by omega) (Nat.le_of_ble_eq_true rfl) ?_
          refine MV.istore_n dX12_lengthsOf_112 (by decide) rfl ?_
          refine MV.iinc (v := 1) dX12_lengthsOf_113 rfl (by decide) (by decide) rfl ?_
          refine MV.goto 75 dX12_lengthsOf_116 (by decide) ?_
          refine MV.weak [some (.ref a), some (.int (nI p)), some (.int (mLat F (i + 1))), some (.int (nI (i + 1))), none] (by simp [leL, sto1, sto2, k2c, nI_1]; exact hm) ?_
          exact ih (i + 1) s2 (by omega) f2 hO2
  have hB : ∀ (k : Nat) (o : Nat → Bool) (s2 : St), k ≤ mkn F → frY s s2 → OR F o s2 → oF (F.2.1 6) k o = outF F → MV MX12_lengthsOf (d, 0, 0, n0, κ) a h0 s2 32 [some (.ref a), some (.int (nI p)), some (.int (0)), some (.int (nI k - 1)), none] [] (fun v s' => v = some (.int (mLenF T F p lat 30)) ∧ frL s s') := by
    intro k
    induction k with
    | zero =>
      intro o s2 hk f2 hO2 hoo
      rw [oF] at hoo
      refine MV.iload_n dX12_lengthsOf_32 rfl ?_
      refine MV.if_lt 73 dX12_lengthsOf_33 (by decide) (fun _ => ?_) (fun z => absurd (show nI 0 - 1 < 0 by decide) z)
      refine MV.iconst (v := nI 0) dX12_lengthsOf_73 (by decide) ?_
      refine MV.istore_n dX12_lengthsOf_74 (by decide) rfl ?_
      refine MV.weak [some (.ref a), some (.int (nI p)), some (.int (mLat F 0)), some (.int (nI 0)), none] (by simp [leL, sto1, sto2, k2c]; rfl) ?_
      exact hC (mkn F) 0 s2 (by omega) f2 (by intro q hq; rw [hO2 q hq]; exact congrArg (fun z => bI (z q)) hoo)
    | succ k ih =>
      intro o s2 hk f2 hO2 hoo
      obtain ⟨e1, e0, e3, e4, e5⟩ := (hF.Y f2).2.2.2.2.1 k (by omega)
      rw [nI_pred k]
      refine MV.iload_n dX12_lengthsOf_32 rfl ?_
      refine MV.if_lt 73 dX12_lengthsOf_33 (by decide) (fun z => absurd z (nI_nlt0 k)) (fun _ => ?_)
      refine MV.aload_n dX12_lengthsOf_36 rfl ?_
      refine MV.getf 62 fl_X12_136 dX12_lengthsOf_37 (by decide) rfl ?_
      refine MV.iload_n dX12_lengthsOf_40 rfl ?_
      refine MV.zld C12_in62 dX12_lengthsOf_41 (rfl) (by omega) (by decide) ?_
      refine MV.if_ne 67 dX12_lengthsOf_42 (by decide) (fun c42 => ?_) (fun c42 => ?_)
      · skip
        have hk1 : o k = true := Classical.byContradiction fun q => c42 ((hO2 k (by omega)).trans (by rw [Bool.eq_false_iff.mpr q]; rfl))
        have hox : oF (F.2.1 6) k o = outF F := by rw [← hoo, oF, if_pos hk1]
        have fx := f2
        have Ox := hO2
        refine MV.iinc (v := (-1)) dX12_lengthsOf_67 rfl (by decide) (by decide) rfl ?_
        refine MV.goto 32 dX12_lengthsOf_70 (by decide) ?_
        refine MV.weak [some (.ref a), some (.int (nI p)), some (.int (0)), some (.int (nI k - 1)), none] (by simp [leL, sto1, sto2, k2c]; exact isub1 _) ?_
        exact ih _ _ (by omega) fx Ox hox
      · skip
        have hk0 : o k = false := bI_f ((hO2 k (by omega)).symm.trans c42)
        refine MV.aload_n dX12_lengthsOf_45 rfl ?_
        refine MV.getf 61 fl_X12_133 dX12_lengthsOf_46 (by decide) rfl ?_
        refine MV.iload_n dX12_lengthsOf_49 rfl ?_
        refine MV.ald C12_in61 dX12_lengthsOf_50 (rfl) (by omega) (by decide) ?_
        refine MV.iconst (v := (-1)) dX12_lengthsOf_51 (by decide) ?_
        refine MV.icmp_eq 67 dX12_lengthsOf_52 (by decide) (fun c52 => ?_) (fun c52 => ?_)
        · skip
          have em : F.2.1 6 k = -1 := e5.symm.trans c52
          have hox : oF (F.2.1 6) k o = outF F := by rw [← hoo, oF, if_neg (by rw [hk0]; decide), if_pos em]
          have fx := f2
          have Ox := hO2
          refine MV.iinc (v := (-1)) dX12_lengthsOf_67 rfl (by decide) (by decide) rfl ?_
          refine MV.goto 32 dX12_lengthsOf_70 (by decide) ?_
          refine MV.weak [some (.ref a), some (.int (nI p)), some (.int (0)), some (.int (nI k - 1)), none] (by simp [leL, sto1, sto2, k2c]; exact isub1 _) ?_
          exact ih _ _ (by omega) fx Ox hox
        · skip
          have em : ¬ F.2.1 6 k = -1 := fun z => c52 (e5.trans z)
          obtain ⟨j, ej, hj⟩ : ∃ j, F.2.1 6 k = nI j ∧ j < k := by
            rcases hF.2.2.2.2.2 k (by omega) with z | z
            · exact absurd z.1 em
            · exact ⟨_, z.1, z.2⟩
          have hnj : nat (F.2.1 6 k) = j := by rw [ej]; exact nI_clamp (by omega)
          have hox : oF (F.2.1 6) k (fun i => if i = j then true else o i) = outF F := by rw [← hoo, oF, if_neg (by rw [hk0]; decide), if_neg em, hnj]
          have fx : frY s (mA s2 62 j (bI true)) := f2.tr (frY.X (frX.a (by decide)))
          have Ox := hO2.up (j := j)
          refine MV.aload_n dX12_lengthsOf_55 rfl ?_
          refine MV.getf 62 fl_X12_136 dX12_lengthsOf_56 (by decide) rfl ?_
          refine MV.aload_n dX12_lengthsOf_59 rfl ?_
          refine MV.getf 61 fl_X12_133 dX12_lengthsOf_60 (by decide) rfl ?_
          refine MV.iload_n dX12_lengthsOf_63 rfl ?_
          refine MV.ald C12_in61 dX12_lengthsOf_64 (rfl) (by omega) (by decide) ?_
          refine MV.iconst (v := (bI true)) dX12_lengthsOf_65 (by decide) ?_
          refine MV.zst C12_in62 dX12_lengthsOf_66 (e5.trans ej) (by omega) (by decide) (by decide) ?_
          refine MV.iinc (v := (-1)) dX12_lengthsOf_67 rfl (by decide) (by decide) rfl ?_
          refine MV.goto 32 dX12_lengthsOf_70 (by decide) ?_
          refine MV.weak [some (.ref a), some (.int (nI p)), some (.int (0)), some (.int (nI k - 1)), none] (by simp [leL, sto1, sto2, k2c]; exact isub1 _) ?_
          exact ih _ _ (by omega) fx Ox hox
  have hA : ∀ (k i : Nat) (s2 : St), i + k = mkn F → frY s s2 → (∀ q, q < i → s2.2.1 62 q = bI false) → MV MX12_lengthsOf (d, 0, 0, n0, κ) a h0 s2 4 [some (.ref a), some (.int (nI p)), some (.int (0)), some (.int (nI i)), none] [] (fun v s' => v = some (.int (mLenF T F p lat 30)) ∧ frL s s') := by
    intro k
    induction k with
    | zero =>
      intro i s2 hik f2 hz
      refine MV.iload_n dX12_lengthsOf_4 rfl ?_
      refine MV.aload_n dX12_lengthsOf_5 rfl ?_
      refine MV.cV0 yoX12_knownMany ml_X12_511 im_X12_knownMany se_X12_knownMany dX12_lengthsOf_6 rfl (Nat.le_of_ble_eq_true rfl) (by omega) rfl (Nat.le_of_ble_eq_true rfl) (knownMany_M (by omega)) (MV.rdK ?_)
      refine MV.eqi (nI (mkn F)) (hF.Y f2).kn.2.2.2 ?_
      refine MV.icmp_ge 25 dX12_lengthsOf_9 (by decide) (fun _ => ?_) (fun z => absurd (nI_le (by omega) (by omega)) z)
      refine MV.aload_n dX12_lengthsOf_25 rfl ?_
      refine MV.cV0 yoX12_knownMany ml_X12_511 im_X12_knownMany se_X12_knownMany dX12_lengthsOf_26 rfl (Nat.le_of_ble_eq_true rfl) (by omega) rfl (Nat.le_of_ble_eq_true rfl) (knownMany_M (by omega)) (MV.rdK ?_)
      refine MV.eqi (nI (mkn F)) (hF.Y f2).kn.2.2.2 ?_
      refine MV.iconst (v := 1) dX12_lengthsOf_29 (by decide) ?_
      refine MV.isub dX12_lengthsOf_30 ?_
      refine MV.istore_n dX12_lengthsOf_31 (by decide) rfl ?_
      exact hB (mkn F) (fun _ => false) s2 (Nat.le_refl _) f2 (fun q hq => hz q (by omega)) rfl
    | succ k ih =>
      intro i s2 hik f2 hz
      refine MV.iload_n dX12_lengthsOf_4 rfl ?_
      refine MV.aload_n dX12_lengthsOf_5 rfl ?_
      refine MV.cV0 yoX12_knownMany ml_X12_511 im_X12_knownMany se_X12_knownMany dX12_lengthsOf_6 rfl (Nat.le_of_ble_eq_true rfl) (by omega) rfl (Nat.le_of_ble_eq_true rfl) (knownMany_M (by omega)) (MV.rdK ?_)
      refine MV.eqi (nI (mkn F)) (hF.Y f2).kn.2.2.2 ?_
      refine MV.icmp_ge 25 dX12_lengthsOf_9 (by decide) (fun z => absurd z (nI_ge (by omega) (by omega))) (fun _ => ?_)
      refine MV.aload_n dX12_lengthsOf_12 rfl ?_
      refine MV.getf 62 fl_X12_136 dX12_lengthsOf_13 (by decide) rfl ?_
      refine MV.iload_n dX12_lengthsOf_16 rfl ?_
      refine MV.iconst (v := (bI false)) dX12_lengthsOf_17 (by decide) ?_
      refine MV.zst C12_in62 dX12_lengthsOf_18 (rfl) (by omega) (by decide) (by decide) ?_
      refine MV.iinc (v := 1) dX12_lengthsOf_19 rfl (by decide) (by decide) rfl ?_
      refine MV.goto 4 dX12_lengthsOf_22 (by decide) ?_
      refine MV.weak [some (.ref a), some (.int (nI p)), some (.int (0)), some (.int (nI (i + 1))), none] (by simp [leL, sto1, sto2, k2c, nI_1]) ?_
      refine ih (i + 1) _ (by omega) (f2.tr (frY.X (frX.a (by decide)))) (fun q hq => ?_)
      rw [mA_at]
      by_cases e : q = i
      · rw [if_pos e]
      · rw [if_neg e]; exact hz q (by omega)
  refine MV.iconst (v := 0) dX12_lengthsOf_0 (by decide) ?_
  refine MV.istore_n dX12_lengthsOf_1 (by decide) rfl ?_
  refine MV.iconst (v := nI 0) dX12_lengthsOf_2 (by decide) ?_
  refine MV.istore_n dX12_lengthsOf_3 (by decide) rfl ?_
  exact hA (mkn F) 0 s (by omega) (frY.X frX.rf) (fun q hq => absurd hq (by omega))
