/-! The model: what comes -/
/-- the course's numbers, begun with this wind -/
def kW (w : Int32) : Nat → Int32 := fun j => if j = 1 then w else if j = 2 then -1 else 0
def kT (w i : Int32) : Nat → Int32 := fun j => if j = 1 then (if w = 0 then 2 else if w = 1 then 3 else 0) else if j = 2 then (if w = 2 then i else -1) else if j = 3 then (if w = 3 then 1 else 0) else if j = 4 then (if w = 4 then 1 else 0) else 0
theorem nI_m1 {p : Nat} (hp : p < 2 ^ 31) : ¬ nI p = -1 := by
  intro q
  have := nI_pos' (n := p) hp
  rw [q] at this
  exact absurd this (by decide)
theorem wAs_0 (dr : Int32) : wAsB 0 dr = decide (¬ dr < 50) := by
  unfold wAsB
  rw [show decide ((0 : Int32) = 1) = false by decide, show decide (¬ (0 : Int32) = 5) = true by decide, Bool.false_or, Bool.true_and]
theorem relK0 {T : Tx} {s : St} (h : s.1 46 = 0) : relK T (kW 0) s false := by
  refine ⟨fun z => absurd z (by decide), fun c => ?_, ?_, ?_, fun p hp => ?_⟩
  · rw [h, mW, if_neg (by decide), wAs_0, show kW 0 1 = 0 from rfl]
    unfold windK tWindy
    rw [if_neg (by decide), if_neg (by decide), if_neg (by decide)]
  · rw [h]; exact ⟨fun _ => by decide, fun _ => rfl⟩
  · rw [h]; exact ⟨fun _ => by decide, fun _ => rfl⟩
  · rw [h]
    constructor
    · intro z; exact absurd z (nI_m1 (by omega))
    · intro z; exact absurd z.1 (by decide)
theorem relK1 {T : Tx} {s : St} (h : s.1 46 = 0) : relK T (kW 1) s true := by
  refine ⟨fun _ => h, fun c => ?_, ?_, ?_, fun p hp => ?_⟩
  · rw [mW, if_pos rfl, show kW 1 1 = 1 from rfl]
    unfold windK
    rw [if_pos rfl]
  · rw [h]; exact ⟨fun _ => by decide, fun _ => rfl⟩
  · rw [h]; exact ⟨fun _ => by decide, fun _ => rfl⟩
  · rw [h]
    constructor
    · intro z; exact absurd z (nI_m1 (by omega))
    · intro z; exact absurd z.1 (by decide)
/-- room 1 is room 0 -/
theorem Rm.copy1 {T : Tx} {s s' c : St} (h : Rm T s 0 c) (f : frR 1 s s') (h1 : ∀ k, 36 ≤ k → k ≤ 39 → s'.2.1 k 1 = s.2.1 k 0) (h2 : ∀ k p, 40 ≤ k → k ≤ 43 → p < 6 → s'.2.1 k (6 * 1 + p) = s.2.1 k (6 * 0 + p)) : Rm T s' 1 c ∧ Rm T s' 0 c :=
  ⟨⟨f.T h.1, h.2.1.copy f h1 h2, h.2.2⟩, ⟨f.T h.1, h.2.1.other f (by decide), h.2.2⟩⟩
def aAhead (T : Tx) (c : St) (n w x : Int32) : Int32 :=
  if ¬ n < 0 ∧ ¬ 200 < n ∧ ¬ w < 0 ∧ ¬ 4 < w ∧ (w = 2 ∨ w = 3 ∨ isManB (T.1.1 0) x = true) then
    (if w = 0 then cLeft (hoursS T (kW 0) 63 true (nat n) c) (nat x) else if w = 1 then aRec T (hoursS T (kW 0) 63 true (nat n) c) (nat x)
    else if w = 2 then bcI (outM (cLeft (hoursS T (kW 0) 63 true (nat n) c)) (nat (T.1.1 0))) else if w = 3 then (hoursS T (kW 0) 63 true (nat n) c).1 8 - c.1 8
    else (hoursS T (kW 0) 63 true (nat n) c).2.1 6 (nat x) - c.2.1 6 (nat x)) else -1
def seekF (T : Tx) (t : St → Bool) : Nat → Nat → St → Int32
  | 0, _, _ => -2
  | j + 1, i, e => if t e = true then nI i else seekF T t j (i + 1) (passS T (kW 0) 63 true e)
def aEnds (T : Tx) (c : St) (x : Int32) : Int32 := if isManB (T.1.1 0) x = true then seekF T (fun e => decide (cLeft e (nat x) = 0)) 200 0 c else -1
def aAlike (T : Tx) (c : St) (x y : Int32) : Int32 := if areTwoB (T.1.1 0) x y = true then seekF T (fun e => decide (cLeft e (nat x) = cLeft e (nat y))) 200 0 c else -1
def setNum (c : St) (x : Int32) : St := (upd c.1 10 x, c.2.1, c.2.2.1, c.2.2.2)
def chanceF (T : Tx) (c : St) (n p : Nat) (l : Int32) : Nat → Int32 → Int32 → Int32
  | 0, _, k => k
  | r + 1, x, k => chanceF T c n p l r ((hoursS T (kW 1) 63 true n (setNum c x)).1 10) (k + (if l ≤ cLeft (hoursS T (kW 1) 63 true n (setNum c x)) p then 1 else 0))
def aChance (T : Tx) (c : St) (x n y l : Int32) : Int32 := if ¬ x < 0 ∧ ¬ n < 1 ∧ ¬ 99 < n ∧ isManB (T.1.1 0) y = true ∧ ¬ l < 0 ∧ ¬ 60 < l then chanceF T c (nat n) (nat y) l 10 x 0 else -1
def aTried (T : Tx) (c : St) (w i n : Int32) : Int32 := if ¬ w < 0 ∧ ¬ 4 < w ∧ ¬ n < 0 ∧ ¬ 200 < n ∧ (if w = 2 then isManB (T.1.1 0) i = true else i = 0) then sumI (cLeft (hoursS T (kT w i) 63 true (nat n) c)) (nat (T.1.1 0)) else -1
set_option maxRecDepth 100000 in
set_option maxHeartbeats 4000000 in
theorem ahead_M {d n0 a : Nat} {κ : Kd} {h0 : Hp} (hd : 9 ≤ d) {T : Tx} {s c : St} (hqu : qui s) (hw : wfT T) (hR : Rm T s 0 c) {x w y : Int32} : MV MX12_ahead (d, 0, 0, n0, κ) a h0 s 0 [some (.ref a), some (.int (x)), some (.int (w)), some (.int (y)), none] [] (fun v s' => v = some (.int (aAhead T c x w y)) ∧ frX s s') := by
  have h23 : ¬ w = 0 → ¬ w = 1 → ¬ w = 4 → ¬ w < 0 → ¬ 4 < w → w = 2 ∨ w = 3 := by
    intro a b c e f
    obtain ⟨k, hk, rfl⟩ := nI_of e
    have : k ≤ 4 := Nat.not_lt.mp fun z => f (nI_lt (a := 4) z hk)
    have h5 : k = 0 ∨ k = 1 ∨ k = 2 ∨ k = 3 ∨ k = 4 := by omega
    rcases h5 with rfl | rfl | rfl | rfl | rfl
    · exact absurd rfl a
    · exact absurd rfl b
    · exact Or.inl rfl
    · exact Or.inr rfl
    · exact absurd rfl c
  have h61 : ∀ {n : Nat}, n ≤ 200 → nat (nI n) = n → (¬ w = 2 → ¬ w = 3 → ∃ p, y = nI p ∧ p < nat (T.1.1 0) ∧ p < 6 ∧ nat (nI p) = p) → aAhead T c (nI n) w y = (if w = 0 then cLeft (hoursS T (kW 0) 63 true n c) (nat y) else if w = 1 then aRec T (hoursS T (kW 0) 63 true n c) (nat y) else if w = 2 then bcI (outM (cLeft (hoursS T (kW 0) 63 true n c)) (nat (T.1.1 0))) else if w = 3 then (hoursS T (kW 0) 63 true n c).1 8 - c.1 8 else (hoursS T (kW 0) 63 true n c).2.1 6 (nat y) - c.2.1 6 (nat y)) → MV MX12_ahead (d, 0, 0, n0, κ) a h0 (mI s 0 0) 61 [some (.ref a), some (.int (nI n)), some (.int (w)), some (.int (y)), none] [] (fun v s' => v = some (.int (aAhead T c (nI n) w y)) ∧ frX s s') := by
    intro n hn200 hnn hman hV
    refine MV.aload_n dX12_ahead_61 rfl ?_
    refine MV.iconst (v := nI 1) dX12_ahead_62 (by decide) ?_
    refine MV.iconst (v := nI 0) dX12_ahead_63 (by decide) ?_
    refine MV.cV2 yoX12_copies ml_X12_441 im_X12_copies se_X12_copies dX12_ahead_64 rfl (Nat.le_of_ble_eq_true rfl) (by omega) rfl (Nat.le_of_ble_eq_true rfl) (copies_M (r := 1) (q := 0) (by omega) (by decide) (by decide) (by decide)) ?_
    rintro _ s1 ⟨rfl, f1, h1, h2⟩
    obtain ⟨hR1, hR0⟩ := (Rm.z (x := 0) hR).copy1 f1 h1 h2
    have fx1 : frX s s1 := frX.z.tr (frX.r1 f1)
    have q46 : s1.1 46 = 0 := (hqu.fr fx1).1
    refine MV.aload_n dX12_ahead_67 rfl ?_
    refine MV.iload_n dX12_ahead_68 rfl ?_
    refine MV.cV1 yoX12_goesOn ml_X12_450 im_X12_goesOn se_X12_goesOn dX12_ahead_69 rfl (Nat.le_of_ble_eq_true rfl) (by omega) rfl (Nat.le_of_ble_eq_true rfl) (goesOn_M (T := T) (k := kW 0) (c := c) (n := n) (by omega) (by omega) hw hR1 (relK0 q46)) ?_
    rintro _ s2 ⟨rfl, hR3, f2⟩
    have fx3 : frX s s2 := fx1.tr (frX.r1 f2)
    have hR0 : Rm T s2 0 c := ⟨f2.T hR0.1, hR0.2.1.other f2 (by decide), hR0.2.2⟩
    obtain ⟨hn0, n6⟩ := lo0 hR0
    refine MV.iload_n dX12_ahead_72 rfl ?_
    refine MV.tswG [(0, 104), (1, 111), (2, 118), (3, 124)] 138 dX12_ahead_73 (by decide) (by decide +kernel) (fa_cons (fun cs73 => ?_) (fa_cons (fun cs73 => ?_) (fa_cons (fun cs73 => ?_) (fa_cons (fun cs73 => ?_) fa_nil)))) (fun co73 => ?_)
    · skip
      obtain ⟨p, rfl, hp, hp6, hnp⟩ := hman (by rw [cs73]; decide) (by rw [cs73]; decide)
      rw [hnp] at hV
      refine MV.aload_n dX12_ahead_104 rfl ?_
      refine MV.iconst (v := nI 1) dX12_ahead_105 (by decide) ?_
      refine MV.iload_n dX12_ahead_106 rfl ?_
      refine MV.cV2 yoX12_leftOf ml_X12_353 im_X12_leftOf se_X12_leftOf dX12_ahead_107 rfl (Nat.le_of_ble_eq_true rfl) (by omega) rfl (Nat.le_of_ble_eq_true rfl) (mLeft_M (r := 1) (by omega) (by decide) hp6) (MV.rdK ?_)
      refine MV.iret dX12_ahead_110 rfl ?_
      exact ⟨by rw [hV, if_pos cs73]; exact congrArg (fun z => some (Value.int z)) (hR3.2.1.left hR3.1 hp).1, fx3⟩
    · skip
      obtain ⟨p, rfl, hp, hp6, hnp⟩ := hman (by rw [cs73]; decide) (by rw [cs73]; decide)
      rw [hnp] at hV
      refine MV.aload_n dX12_ahead_111 rfl ?_
      refine MV.iconst (v := nI 1) dX12_ahead_112 (by decide) ?_
      refine MV.iload_n dX12_ahead_113 rfl ?_
      refine MV.cV2 yoX12_recallOf ml_X12_434 im_X12_recallOf se_X12_recallOf dX12_ahead_114 rfl (Nat.le_of_ble_eq_true rfl) (by omega) rfl (Nat.le_of_ble_eq_true rfl) (recallOf_M (T := T) (r := 1) (by omega) (by decide) hR3 hp ((hqu.fr fx3).1)) ?_
      rintro _ s4 ⟨rfl, f4⟩
      refine MV.iret dX12_ahead_117 rfl ?_
      exact ⟨by rw [hV, if_neg (by rw [cs73]; decide), if_pos cs73], fx3.tr (frX.v f4)⟩
    · skip
      refine MV.aload_n dX12_ahead_118 rfl ?_
      refine MV.iconst (v := nI 1) dX12_ahead_119 (by decide) ?_
      refine MV.cV1 yoX12_outAll ml_X12_453 im_X12_outAll se_X12_outAll dX12_ahead_120 rfl (Nat.le_of_ble_eq_true rfl) (by omega) rfl (Nat.le_of_ble_eq_true rfl) (outAll_M (r := 1) (by omega) (by decide) hn0 n6) (MV.rdK ?_)
      refine MV.iret dX12_ahead_123 rfl ?_
      exact ⟨by rw [hV, if_neg (by rw [cs73]; decide), if_neg (by rw [cs73]; decide), if_pos cs73]; exact congrArg (fun z => some (Value.int z)) ((cntF0_congr _ (fun p hp => (hR3.2.1.left hR3.1 hp).1)).trans (out_count n6).symm), fx3⟩
    · skip
      refine MV.aload_n dX12_ahead_124 rfl ?_
      refine MV.getf 38 fl_X12_81 dX12_ahead_125 (by decide) rfl ?_
      refine MV.iconst (v := nI 1) dX12_ahead_128 (by decide) ?_
      refine MV.ald C12_in38 dX12_ahead_129 (rfl) (by omega) (by decide) ?_
      refine MV.eqi ((hoursS T (kW 0) 63 true n c).1 8) hR3.2.1.2.2.2.1.symm ?_
      refine MV.aload_n dX12_ahead_130 rfl ?_
      refine MV.getf 38 fl_X12_81 dX12_ahead_131 (by decide) rfl ?_
      refine MV.iconst (v := nI 0) dX12_ahead_134 (by decide) ?_
      refine MV.ald C12_in38 dX12_ahead_135 (rfl) (by omega) (by decide) ?_
      refine MV.eqi (c.1 8) hR0.2.1.2.2.2.1.symm ?_
      refine MV.isub dX12_ahead_136 ?_
      refine MV.iret dX12_ahead_137 rfl ?_
      exact ⟨by rw [hV, if_neg (by rw [cs73]; decide), if_neg (by rw [cs73]; decide), if_neg (by rw [cs73]; decide), if_pos cs73], fx3⟩
    · skip
      obtain ⟨p, rfl, hp, hp6, hnp⟩ := hman (co73 (2, 118) (by decide)) (co73 (3, 124) (by decide))
      rw [hnp] at hV
      have h67 : 6 + nI p = nI (6 * 1 + p) := nI_add 6 p
      refine MV.aload_n dX12_ahead_138 rfl ?_
      refine MV.getf 43 fl_X12_96 dX12_ahead_139 (by decide) rfl ?_
      refine MV.bipush (v := 6) dX12_ahead_142 (by decide) ?_
      refine MV.iload_n dX12_ahead_144 rfl ?_
      refine MV.iadd dX12_ahead_145 ?_
      refine MV.ald C12_in43 dX12_ahead_146 (h67) (by omega) (by decide) ?_
      refine MV.eqi ((hoursS T (kW 0) 63 true n c).2.1 6 p) (hR3.2.1.2.2.2.2.2.1 p hp6).2.2.2.symm ?_
      refine MV.aload_n dX12_ahead_147 rfl ?_
      refine MV.getf 43 fl_X12_96 dX12_ahead_148 (by decide) rfl ?_
      refine MV.iload_n dX12_ahead_151 rfl ?_
      refine MV.ald C12_in43 dX12_ahead_152 (rfl) (by omega) (by decide) ?_
      refine MV.eqi (c.2.1 6 p) (hR0.2.1.r0 hp6).2.2.2.symm ?_
      refine MV.isub dX12_ahead_153 ?_
      refine MV.iret dX12_ahead_154 rfl ?_
      exact ⟨by rw [hV, if_neg (co73 (0, 104) (by decide)), if_neg (co73 (1, 111) (by decide)), if_neg (co73 (2, 118) (by decide)), if_neg (co73 (3, 124) (by decide))], fx3⟩
  refine MV.aload_n dX12_ahead_0 rfl ?_
  refine MV.iconst (v := 0) dX12_ahead_1 (by decide) ?_
  refine MV.putf 0 fl_X12_148 dX12_ahead_2 (by decide) rfl (rfl) (rfl) C12_s0 ?_
  refine MV.iload_n dX12_ahead_5 rfl ?_
  refine MV.if_eq 19 dX12_ahead_6 (by decide) (fun c6 => ?_) (fun c6 => ?_)
  · skip
    have hone : ¬ w = 2 ∧ ¬ w = 3 := ⟨by rw [c6]; decide, by rw [c6]; decide⟩
    refine MV.iconst (v := 1) dX12_ahead_19 (by decide) ?_
    refine MV.goto 24 dX12_ahead_20 (by decide) ?_
    refine MV.istore dX12_ahead_24 (by decide) rfl ?_
    refine MV.iload_n dX12_ahead_26 rfl ?_
    refine MV.if_lt 59 dX12_ahead_27 (by decide) (fun c27 => ?_) (fun c27 => ?_)
    · skip
      have hA : aAhead T c x w y = -1 := by rw [aAhead, if_neg (fun z => z.1 c27)]
      refine MV.iconst (v := (-1)) dX12_ahead_59 (by decide) ?_
      refine MV.iret dX12_ahead_60 rfl ?_
      exact ⟨by rw [hA], frX.z⟩
    · skip
      refine MV.iload_n dX12_ahead_30 rfl ?_
      refine MV.sipush (v := 200) dX12_ahead_31 (by decide) ?_
      refine MV.icmp_gt 59 dX12_ahead_34 (by decide) (fun c34 => ?_) (fun c34 => ?_)
      · skip
        have hA : aAhead T c x w y = -1 := by rw [aAhead, if_neg (fun z => z.2.1 c34)]
        refine MV.iconst (v := (-1)) dX12_ahead_59 (by decide) ?_
        refine MV.iret dX12_ahead_60 rfl ?_
        exact ⟨by rw [hA], frX.z⟩
      · skip
        have q34 : ¬ 200 < x := c34
        refine MV.iload_n dX12_ahead_37 rfl ?_
        refine MV.if_lt 59 dX12_ahead_38 (by decide) (fun c38 => ?_) (fun c38 => ?_)
        · skip
          have hA : aAhead T c x w y = -1 := by rw [aAhead, if_neg (fun z => z.2.2.1 c38)]
          refine MV.iconst (v := (-1)) dX12_ahead_59 (by decide) ?_
          refine MV.iret dX12_ahead_60 rfl ?_
          exact ⟨by rw [hA], frX.z⟩
        · skip
          refine MV.iload_n dX12_ahead_41 rfl ?_
          refine MV.iconst (v := 4) dX12_ahead_42 (by decide) ?_
          refine MV.icmp_gt 59 dX12_ahead_43 (by decide) (fun c43 => ?_) (fun c43 => ?_)
          · skip
            have hA : aAhead T c x w y = -1 := by rw [aAhead, if_neg (fun z => z.2.2.2.1 c43)]
            refine MV.iconst (v := (-1)) dX12_ahead_59 (by decide) ?_
            refine MV.iret dX12_ahead_60 rfl ?_
            exact ⟨by rw [hA], frX.z⟩
          · skip
            obtain ⟨n, hn31, rfl⟩ := nI_of c27
            have hn200 : n ≤ 200 := Nat.not_lt.mp fun z => c34 (nI_lt (a := 200) z hn31)
            have hnn : nat (nI n) = n := nI_clamp hn31
            refine MV.iload dX12_ahead_46 rfl ?_
            refine MV.if_eq 61 dX12_ahead_48 (by decide) (fun z => absurd z (show ¬ (1 : Int32) = 0 by decide)) (fun _ => ?_)
            refine MV.aload_n dX12_ahead_51 rfl ?_
            refine MV.iload_n dX12_ahead_52 rfl ?_
            refine MV.cV1 yoX12_isMan ml_X12_425 im_X12_isMan se_X12_isMan dX12_ahead_53 rfl (Nat.le_of_ble_eq_true rfl) (by omega) rfl (Nat.le_of_ble_eq_true rfl) (mIsMan_M (by omega)) (MV.rdK ?_)
            refine MV.if_ne 61 dX12_ahead_56 (by decide) (fun c56 => ?_) (fun c56 => ?_)
            · skip
              have hman0 := yesMan hR.1 c56
              refine MV.weak [some (.ref a), some (.int (nI n)), some (.int (w)), some (.int (y)), none] (by simp [leL, sto1, sto2, k2c]) ?_
              exact h61 hn200 hnn (fun _ _ => hman0.2) (by rw [aAhead, if_pos ⟨c27, c34, c38, c43, Or.inr (Or.inr hman0.1)⟩, hnn])
            · skip
              have hno := noMan hR.1 c56
              have hA : aAhead T c (nI n) w y = -1 := by rw [aAhead, if_neg (fun z => z.2.2.2.2.elim hone.1 (fun q => q.elim hone.2 hno))]
              refine MV.iconst (v := (-1)) dX12_ahead_59 (by decide) ?_
              refine MV.iret dX12_ahead_60 rfl ?_
              exact ⟨by rw [hA], frX.z⟩
  · skip
    refine MV.iload_n dX12_ahead_9 rfl ?_
    refine MV.iconst (v := 1) dX12_ahead_10 (by decide) ?_
    refine MV.icmp_eq 19 dX12_ahead_11 (by decide) (fun c11 => ?_) (fun c11 => ?_)
    · skip
      have hone : ¬ w = 2 ∧ ¬ w = 3 := ⟨by rw [c11]; decide, by rw [c11]; decide⟩
      refine MV.iconst (v := 1) dX12_ahead_19 (by decide) ?_
      refine MV.goto 24 dX12_ahead_20 (by decide) ?_
      refine MV.istore dX12_ahead_24 (by decide) rfl ?_
      refine MV.iload_n dX12_ahead_26 rfl ?_
      refine MV.if_lt 59 dX12_ahead_27 (by decide) (fun c27 => ?_) (fun c27 => ?_)
      · skip
        have hA : aAhead T c x w y = -1 := by rw [aAhead, if_neg (fun z => z.1 c27)]
        refine MV.iconst (v := (-1)) dX12_ahead_59 (by decide) ?_
        refine MV.iret dX12_ahead_60 rfl ?_
        exact ⟨by rw [hA], frX.z⟩
      · skip
        refine MV.iload_n dX12_ahead_30 rfl ?_
        refine MV.sipush (v := 200) dX12_ahead_31 (by decide) ?_
        refine MV.icmp_gt 59 dX12_ahead_34 (by decide) (fun c34 => ?_) (fun c34 => ?_)
        · skip
          have hA : aAhead T c x w y = -1 := by rw [aAhead, if_neg (fun z => z.2.1 c34)]
          refine MV.iconst (v := (-1)) dX12_ahead_59 (by decide) ?_
          refine MV.iret dX12_ahead_60 rfl ?_
          exact ⟨by rw [hA], frX.z⟩
        · skip
          have q34 : ¬ 200 < x := c34
          refine MV.iload_n dX12_ahead_37 rfl ?_
          refine MV.if_lt 59 dX12_ahead_38 (by decide) (fun c38 => ?_) (fun c38 => ?_)
          · skip
            have hA : aAhead T c x w y = -1 := by rw [aAhead, if_neg (fun z => z.2.2.1 c38)]
            refine MV.iconst (v := (-1)) dX12_ahead_59 (by decide) ?_
            refine MV.iret dX12_ahead_60 rfl ?_
            exact ⟨by rw [hA], frX.z⟩
          · skip
            refine MV.iload_n dX12_ahead_41 rfl ?_
            refine MV.iconst (v := 4) dX12_ahead_42 (by decide) ?_
            refine MV.icmp_gt 59 dX12_ahead_43 (by decide) (fun c43 => ?_) (fun c43 => ?_)
            · skip
              have hA : aAhead T c x w y = -1 := by rw [aAhead, if_neg (fun z => z.2.2.2.1 c43)]
              refine MV.iconst (v := (-1)) dX12_ahead_59 (by decide) ?_
              refine MV.iret dX12_ahead_60 rfl ?_
              exact ⟨by rw [hA], frX.z⟩
            · skip
              obtain ⟨n, hn31, rfl⟩ := nI_of c27
              have hn200 : n ≤ 200 := Nat.not_lt.mp fun z => c34 (nI_lt (a := 200) z hn31)
              have hnn : nat (nI n) = n := nI_clamp hn31
              refine MV.iload dX12_ahead_46 rfl ?_
              refine MV.if_eq 61 dX12_ahead_48 (by decide) (fun z => absurd z (show ¬ (1 : Int32) = 0 by decide)) (fun _ => ?_)
              refine MV.aload_n dX12_ahead_51 rfl ?_
              refine MV.iload_n dX12_ahead_52 rfl ?_
              refine MV.cV1 yoX12_isMan ml_X12_425 im_X12_isMan se_X12_isMan dX12_ahead_53 rfl (Nat.le_of_ble_eq_true rfl) (by omega) rfl (Nat.le_of_ble_eq_true rfl) (mIsMan_M (by omega)) (MV.rdK ?_)
              refine MV.if_ne 61 dX12_ahead_56 (by decide) (fun c56 => ?_) (fun c56 => ?_)
              · skip
                have hman0 := yesMan hR.1 c56
                refine MV.weak [some (.ref a), some (.int (nI n)), some (.int (w)), some (.int (y)), none] (by simp [leL, sto1, sto2, k2c]) ?_
                exact h61 hn200 hnn (fun _ _ => hman0.2) (by rw [aAhead, if_pos ⟨c27, c34, c38, c43, Or.inr (Or.inr hman0.1)⟩, hnn])
              · skip
                have hno := noMan hR.1 c56
                have hA : aAhead T c (nI n) w y = -1 := by rw [aAhead, if_neg (fun z => z.2.2.2.2.elim hone.1 (fun q => q.elim hone.2 hno))]
                refine MV.iconst (v := (-1)) dX12_ahead_59 (by decide) ?_
                refine MV.iret dX12_ahead_60 rfl ?_
                exact ⟨by rw [hA], frX.z⟩
    · skip
      refine MV.iload_n dX12_ahead_14 rfl ?_
      refine MV.iconst (v := 4) dX12_ahead_15 (by decide) ?_
      refine MV.icmp_ne 23 dX12_ahead_16 (by decide) (fun c16 => ?_) (fun c16 => ?_)
      · skip
        refine MV.iconst (v := 0) dX12_ahead_23 (by decide) ?_
        refine MV.istore dX12_ahead_24 (by decide) rfl ?_
        refine MV.iload_n dX12_ahead_26 rfl ?_
        refine MV.if_lt 59 dX12_ahead_27 (by decide) (fun c27 => ?_) (fun c27 => ?_)
        · skip
          have hA : aAhead T c x w y = -1 := by rw [aAhead, if_neg (fun z => z.1 c27)]
          refine MV.iconst (v := (-1)) dX12_ahead_59 (by decide) ?_
          refine MV.iret dX12_ahead_60 rfl ?_
          exact ⟨by rw [hA], frX.z⟩
        · skip
          refine MV.iload_n dX12_ahead_30 rfl ?_
          refine MV.sipush (v := 200) dX12_ahead_31 (by decide) ?_
          refine MV.icmp_gt 59 dX12_ahead_34 (by decide) (fun c34 => ?_) (fun c34 => ?_)
          · skip
            have hA : aAhead T c x w y = -1 := by rw [aAhead, if_neg (fun z => z.2.1 c34)]
            refine MV.iconst (v := (-1)) dX12_ahead_59 (by decide) ?_
            refine MV.iret dX12_ahead_60 rfl ?_
            exact ⟨by rw [hA], frX.z⟩
          · skip
            have q34 : ¬ 200 < x := c34
            refine MV.iload_n dX12_ahead_37 rfl ?_
            refine MV.if_lt 59 dX12_ahead_38 (by decide) (fun c38 => ?_) (fun c38 => ?_)
            · skip
              have hA : aAhead T c x w y = -1 := by rw [aAhead, if_neg (fun z => z.2.2.1 c38)]
              refine MV.iconst (v := (-1)) dX12_ahead_59 (by decide) ?_
              refine MV.iret dX12_ahead_60 rfl ?_
              exact ⟨by rw [hA], frX.z⟩
            · skip
              refine MV.iload_n dX12_ahead_41 rfl ?_
              refine MV.iconst (v := 4) dX12_ahead_42 (by decide) ?_
              refine MV.icmp_gt 59 dX12_ahead_43 (by decide) (fun c43 => ?_) (fun c43 => ?_)
              · skip
                have hA : aAhead T c x w y = -1 := by rw [aAhead, if_neg (fun z => z.2.2.2.1 c43)]
                refine MV.iconst (v := (-1)) dX12_ahead_59 (by decide) ?_
                refine MV.iret dX12_ahead_60 rfl ?_
                exact ⟨by rw [hA], frX.z⟩
              · skip
                obtain ⟨n, hn31, rfl⟩ := nI_of c27
                have hn200 : n ≤ 200 := Nat.not_lt.mp fun z => c34 (nI_lt (a := 200) z hn31)
                have hnn : nat (nI n) = n := nI_clamp hn31
                refine MV.iload dX12_ahead_46 rfl ?_
                refine MV.if_eq 61 dX12_ahead_48 (by decide) (fun _ => ?_) (fun z => absurd (rfl) z)
                refine MV.weak [some (.ref a), some (.int (nI n)), some (.int (w)), some (.int (y)), none] (by simp [leL, sto1, sto2, k2c]) ?_
                have h23 : w = 2 ∨ w = 3 := h23 c6 c11 c16 c38 c43
                exact h61 hn200 hnn (fun z1 z2 => absurd h23 (fun q => q.elim z1 z2)) (by rw [aAhead, if_pos ⟨c27, c34, c38, c43, h23.elim Or.inl (fun z => Or.inr (Or.inl z))⟩, hnn])
      · skip
        have hone : ¬ w = 2 ∧ ¬ w = 3 := ⟨by rw [c16]; decide, by rw [c16]; decide⟩
        refine MV.iconst (v := 1) dX12_ahead_19 (by decide) ?_
        refine MV.goto 24 dX12_ahead_20 (by decide) ?_
        refine MV.istore dX12_ahead_24 (by decide) rfl ?_
        refine MV.iload_n dX12_ahead_26 rfl ?_
        refine MV.if_lt 59 dX12_ahead_27 (by decide) (fun c27 => ?_) (fun c27 => ?_)
        · skip
          have hA : aAhead T c x w y = -1 := by rw [aAhead, if_neg (fun z => z.1 c27)]
          refine MV.iconst (v := (-1)) dX12_ahead_59 (by decide) ?_
          refine MV.iret dX12_ahead_60 rfl ?_
          exact ⟨by rw [hA], frX.z⟩
        · skip
          refine MV.iload_n dX12_ahead_30 rfl ?_
          refine MV.sipush (v := 200) dX12_ahead_31 (by decide) ?_
          refine MV.icmp_gt 59 dX12_ahead_34 (by decide) (fun c34 => ?_) (fun c34 => ?_)
          · skip
            have hA : aAhead T c x w y = -1 := by rw [aAhead, if_neg (fun z => z.2.1 c34)]
            refine MV.iconst (v := (-1)) dX12_ahead_59 (by decide) ?_
            refine MV.iret dX12_ahead_60 rfl ?_
            exact ⟨by rw [hA], frX.z⟩
          · skip
            have q34 : ¬ 200 < x := c34
            refine MV.iload_n dX12_ahead_37 rfl ?_
            refine MV.if_lt 59 dX12_ahead_38 (by decide) (fun c38 => ?_) (fun c38 => ?_)
            · skip
              have hA : aAhead T c x w y = -1 := by rw [aAhead, if_neg (fun z => z.2.2.1 c38)]
              refine MV.iconst (v := (-1)) dX12_ahead_59 (by decide) ?_
              refine MV.iret dX12_ahead_60 rfl ?_
              exact ⟨by rw [hA], frX.z⟩
            · skip
              refine MV.iload_n dX12_ahead_41 rfl ?_
              refine MV.iconst (v := 4) dX12_ahead_42 (by decide) ?_
              refine MV.icmp_gt 59 dX12_ahead_43 (by decide) (fun c43 => ?_) (fun c43 => ?_)
              · skip
                have hA : aAhead T c x w y = -1 := by rw [aAhead, if_neg (fun z => z.2.2.2.1 c43)]
                refine MV.iconst (v := (-1)) dX12_ahead_59 (by decide) ?_
                refine MV.iret dX12_ahead_60 rfl ?_
                exact ⟨by rw [hA], frX.z⟩
              · skip
                obtain ⟨n, hn31, rfl⟩ := nI_of c27
                have hn200 : n ≤ 200 := Nat.not_lt.mp fun z => c34 (nI_lt (a := 200) z hn31)
                have hnn : nat (nI n) = n := nI_clamp hn31
                refine MV.iload dX12_ahead_46 rfl ?_
                refine MV.if_eq 61 dX12_ahead_48 (by decide) (fun z => absurd z (show ¬ (1 : Int32) = 0 by decide)) (fun _ => ?_)
                refine MV.aload_n dX12_ahead_51 rfl ?_
                refine MV.iload_n dX12_ahead_52 rfl ?_
                refine MV.cV1 yoX12_isMan ml_X12_425 im_X12_isMan se_X12_isMan dX12_ahead_53 rfl (Nat.le_of_ble_eq_true rfl) (by omega) rfl (Nat.le_of_ble_eq_true rfl) (mIsMan_M (by omega)) (MV.rdK ?_)
                refine MV.if_ne 61 dX12_ahead_56 (by decide) (fun c56 => ?_) (fun c56 => ?_)
                · skip
                  have hman0 := yesMan hR.1 c56
                  refine MV.weak [some (.ref a), some (.int (nI n)), some (.int (w)), some (.int (y)), none] (by simp [leL, sto1, sto2, k2c]) ?_
                  exact h61 hn200 hnn (fun _ _ => hman0.2) (by rw [aAhead, if_pos ⟨c27, c34, c38, c43, Or.inr (Or.inr hman0.1)⟩, hnn])
                · skip
                  have hno := noMan hR.1 c56
                  have hA : aAhead T c (nI n) w y = -1 := by rw [aAhead, if_neg (fun z => z.2.2.2.2.elim hone.1 (fun q => q.elim hone.2 hno))]
                  refine MV.iconst (v := (-1)) dX12_ahead_59 (by decide) ?_
                  refine MV.iret dX12_ahead_60 rfl ?_
                  exact ⟨by rw [hA], frX.z⟩
set_option maxRecDepth 100000 in
set_option maxHeartbeats 2000000 in
theorem ends_M {d n0 a : Nat} {κ : Kd} {h0 : Hp} (hd : 8 ≤ d) {T : Tx} {s c : St} (hqu : qui s) (hw : wfT T) (hR : Rm T s 0 c) {x : Int32} : MV MX12_ends (d, 0, 0, n0, κ) a h0 s 0 [some (.ref a), some (.int (x)), none] [] (fun v s' => v = some (.int (aEnds T c x)) ∧ frX s s') := by
  refine MV.aload_n dX12_ends_0 rfl ?_
  refine MV.iconst (v := 0) dX12_ends_1 (by decide) ?_
  refine MV.putf 0 fl_X12_148 dX12_ends_2 (by decide) rfl (rfl) (rfl) C12_s0 ?_
  refine MV.aload_n dX12_ends_5 rfl ?_
  refine MV.iload_n dX12_ends_6 rfl ?_
  refine MV.cV1 yoX12_isMan ml_X12_425 im_X12_isMan se_X12_isMan dX12_ends_7 rfl (Nat.le_of_ble_eq_true rfl) (by omega) rfl (Nat.le_of_ble_eq_true rfl) (mIsMan_M (by omega)) (MV.rdK ?_)
  refine MV.if_ne 15 dX12_ends_10 (by decide) (fun c10 => ?_) (fun c10 => ?_)
  · skip
    obtain ⟨hman, p, rfl, hp, hp6, hnat⟩ := yesMan hR.1 c10
    refine MV.aload_n dX12_ends_15 rfl ?_
    refine MV.iconst (v := nI 1) dX12_ends_16 (by decide) ?_
    refine MV.iconst (v := nI 0) dX12_ends_17 (by decide) ?_
    refine MV.cV2 yoX12_copies ml_X12_441 im_X12_copies se_X12_copies dX12_ends_18 rfl (Nat.le_of_ble_eq_true rfl) (by omega) rfl (Nat.le_of_ble_eq_true rfl) (copies_M (r := 1) (q := 0) (by omega) (by decide) (by decide) (by decide)) ?_
    rintro _ s1 ⟨rfl, f1, h1, h2⟩
    obtain ⟨hR1, hR0⟩ := (Rm.z (x := 0) hR).copy1 f1 h1 h2
    have fx1 : frX s s1 := frX.z.tr (frX.r1 f1)
    have q46 : s1.1 46 = 0 := (hqu.fr fx1).1
    refine MV.iconst (v := nI 0) dX12_ends_21 (by decide) ?_
    refine MV.istore_n dX12_ends_22 (by decide) rfl ?_
    suffices hL : ∀ (j i : Nat) (s2 e : St), i + j = 200 → Rm T s2 1 e → frX s s2 → seekF T (fun e => decide (cLeft e p = 0)) j i e = aEnds T c (nI p) → MV MX12_ends (d, 0, 0, n0, κ) a h0 s2 23 [some (.ref a), some (.int (nI p)), some (.int (nI i))] [] (fun v s' => v = some (.int (aEnds T c (nI p))) ∧ frX s s') from
      hL 200 0 s1 c (by omega) hR1 fx1 (by rw [aEnds, if_pos hman, hnat])
    intro j
    induction j with
    | zero =>
      intro i s2 e hij hR2 f2 hv
      refine MV.iload_n dX12_ends_23 rfl ?_
      refine MV.sipush (v := 199) dX12_ends_24 (by decide) ?_
      refine MV.icmp_gt 53 dX12_ends_27 (by decide) (fun _ => ?_) (fun z => absurd (nI_lt (a := 199) (by omega) (by omega)) z)
      refine MV.bipush (v := (-2)) dX12_ends_53 (by decide) ?_
      refine MV.iret dX12_ends_55 rfl ?_
      exact ⟨by rw [← hv, show (0 : Nat) = 0 from rfl]; rfl, f2⟩
    | succ j ih =>
      intro i s2 e hij hR2 f2 hv
      refine MV.iload_n dX12_ends_23 rfl ?_
      refine MV.sipush (v := nI 199) dX12_ends_24 (by decide) ?_
      refine MV.icmp_gt 53 dX12_ends_27 (by decide) (fun z => absurd z (nI_nlt (a := 199) (by omega) (by omega))) (fun _ => ?_)
      refine MV.aload_n dX12_ends_30 rfl ?_
      refine MV.iconst (v := nI 1) dX12_ends_31 (by decide) ?_
      refine MV.iload_n dX12_ends_32 rfl ?_
      refine MV.cV2 yoX12_leftOf ml_X12_353 im_X12_leftOf se_X12_leftOf dX12_ends_33 rfl (Nat.le_of_ble_eq_true rfl) (by omega) rfl (Nat.le_of_ble_eq_true rfl) (mLeft_M (r := 1) (by omega) (by decide) hp6) (MV.rdK ?_)
      refine MV.if_ne 41 dX12_ends_36 (by decide) (fun c36 => ?_) (fun c36 => ?_)
      · skip
        have q36 : ¬ cLeft e p = 0 := fun z => c36 ((hR2.2.1.left hR2.1 hp).1.trans z)
        refine MV.aload_n dX12_ends_41 rfl ?_
        refine MV.iconst (v := nI 1) dX12_ends_42 (by decide) ?_
        refine MV.iconst (v := (bI false)) dX12_ends_43 (by decide) ?_
        refine MV.cV2 yoX12_passes ml_X12_421 im_X12_passes se_X12_passes dX12_ends_44 rfl (Nat.le_of_ble_eq_true rfl) (by omega) rfl (Nat.le_of_ble_eq_true rfl) (passes_M (T := T) (k := kW 0) (c := e) (byN := false) (by omega) (by decide) hw hR2 (relK0 (hqu.fr f2).1) rfl) ?_
        rintro _ s3 ⟨rfl, hR3, f3⟩
        refine MV.iinc (v := 1) dX12_ends_47 rfl (by decide) (by decide) rfl ?_
        refine MV.goto 23 dX12_ends_50 (by decide) ?_
        refine MV.weak [some (.ref a), some (.int (nI p)), some (.int (nI (i + 1)))] (by simp [leL, sto1, sto2, k2c, nI_1]) ?_
        exact ih (i + 1) _ _ (by omega) hR3 (f2.tr (frX.r1 f3)) (by rw [← hv, seekF, if_neg (by rw [decide_eq_false q36]; decide)])
      · skip
        have q36 : cLeft e p = 0 := (hR2.2.1.left hR2.1 hp).1.symm.trans c36
        refine MV.iload_n dX12_ends_39 rfl ?_
        refine MV.iret dX12_ends_40 rfl ?_
        exact ⟨by rw [← hv, seekF, if_pos (decide_eq_true q36)], f2⟩
  · skip
    have hno := noMan hR.1 c10
    refine MV.iconst (v := (-1)) dX12_ends_13 (by decide) ?_
    refine MV.iret dX12_ends_14 rfl ?_
    exact ⟨by rw [aEnds, if_neg hno], frX.z⟩
set_option maxRecDepth 100000 in
set_option maxHeartbeats 2000000 in
theorem alike_M {d n0 a : Nat} {κ : Kd} {h0 : Hp} (hd : 8 ≤ d) {T : Tx} {s c : St} (hqu : qui s) (hw : wfT T) (hR : Rm T s 0 c) {x y : Int32} : MV MX12_alike (d, 0, 0, n0, κ) a h0 s 0 [some (.ref a), some (.int (x)), some (.int (y)), none] [] (fun v s' => v = some (.int (aAlike T c x y)) ∧ frX s s') := by
  refine MV.aload_n dX12_alike_0 rfl ?_
  refine MV.iconst (v := 0) dX12_alike_1 (by decide) ?_
  refine MV.putf 0 fl_X12_148 dX12_alike_2 (by decide) rfl (rfl) (rfl) C12_s0 ?_
  refine MV.aload_n dX12_alike_5 rfl ?_
  refine MV.iload_n dX12_alike_6 rfl ?_
  refine MV.iload_n dX12_alike_7 rfl ?_
  refine MV.cV2 yoX12_areTwo ml_X12_456 im_X12_areTwo se_X12_areTwo dX12_alike_8 rfl (Nat.le_of_ble_eq_true rfl) (by omega) rfl (Nat.le_of_ble_eq_true rfl) (areTwo_M (by omega)) (MV.rdK ?_)
  refine MV.if_ne 16 dX12_alike_11 (by decide) (fun c11 => ?_) (fun c11 => ?_)
  · skip
    obtain ⟨htwo, p, q, rfl, rfl, hp, hq, hp6, hq6, hnp, hnq, hne⟩ := yesTwo hR.1 c11
    refine MV.aload_n dX12_alike_16 rfl ?_
    refine MV.iconst (v := nI 1) dX12_alike_17 (by decide) ?_
    refine MV.iconst (v := nI 0) dX12_alike_18 (by decide) ?_
    refine MV.cV2 yoX12_copies ml_X12_441 im_X12_copies se_X12_copies dX12_alike_19 rfl (Nat.le_of_ble_eq_true rfl) (by omega) rfl (Nat.le_of_ble_eq_true rfl) (copies_M (r := 1) (q := 0) (by omega) (by decide) (by decide) (by decide)) ?_
    rintro _ s1 ⟨rfl, f1, h1, h2⟩
    obtain ⟨hR1, hR0⟩ := (Rm.z (x := 0) hR).copy1 f1 h1 h2
    have fx1 : frX s s1 := frX.z.tr (frX.r1 f1)
    have q46 : s1.1 46 = 0 := (hqu.fr fx1).1
    refine MV.iconst (v := nI 0) dX12_alike_22 (by decide) ?_
    refine MV.istore_n dX12_alike_23 (by decide) rfl ?_
    suffices hL : ∀ (j i : Nat) (s2 e : St), i + j = 200 → Rm T s2 1 e → frX s s2 → seekF T (fun e => decide (cLeft e p = cLeft e q)) j i e = aAlike T c (nI p) (nI q) → MV MX12_alike (d, 0, 0, n0, κ) a h0 s2 24 [some (.ref a), some (.int (nI p)), some (.int (nI q)), some (.int (nI i))] [] (fun v s' => v = some (.int (aAlike T c (nI p) (nI q))) ∧ frX s s') from
      hL 200 0 s1 c (by omega) hR1 fx1 (by rw [aAlike, if_pos htwo, hnp, hnq])
    intro j
    induction j with
    | zero =>
      intro i s2 e hij hR2 f2 hv
      refine MV.iload_n dX12_alike_24 rfl ?_
      refine MV.sipush (v := 199) dX12_alike_25 (by decide) ?_
      refine MV.icmp_gt 60 dX12_alike_28 (by decide) (fun _ => ?_) (fun z => absurd (nI_lt (a := 199) (by omega) (by omega)) z)
      refine MV.bipush (v := (-2)) dX12_alike_60 (by decide) ?_
      refine MV.iret dX12_alike_62 rfl ?_
      exact ⟨by rw [← hv]; rfl, f2⟩
    | succ j ih =>
      intro i s2 e hij hR2 f2 hv
      refine MV.iload_n dX12_alike_24 rfl ?_
      refine MV.sipush (v := nI 199) dX12_alike_25 (by decide) ?_
      refine MV.icmp_gt 60 dX12_alike_28 (by decide) (fun z => absurd z (nI_nlt (a := 199) (by omega) (by omega))) (fun _ => ?_)
      refine MV.aload_n dX12_alike_31 rfl ?_
      refine MV.iconst (v := nI 1) dX12_alike_32 (by decide) ?_
      refine MV.iload_n dX12_alike_33 rfl ?_
      refine MV.cV2 yoX12_leftOf ml_X12_353 im_X12_leftOf se_X12_leftOf dX12_alike_34 rfl (Nat.le_of_ble_eq_true rfl) (by omega) rfl (Nat.le_of_ble_eq_true rfl) (mLeft_M (r := 1) (by omega) (by decide) hp6) (MV.rdK ?_)
      refine MV.aload_n dX12_alike_37 rfl ?_
      refine MV.iconst (v := nI 1) dX12_alike_38 (by decide) ?_
      refine MV.iload_n dX12_alike_39 rfl ?_
      refine MV.cV2 yoX12_leftOf ml_X12_353 im_X12_leftOf se_X12_leftOf dX12_alike_40 rfl (Nat.le_of_ble_eq_true rfl) (by omega) rfl (Nat.le_of_ble_eq_true rfl) (mLeft_M (r := 1) (by omega) (by decide) hq6) (MV.rdK ?_)
      refine MV.icmp_ne 48 dX12_alike_43 (by decide) (fun c43 => ?_) (fun c43 => ?_)
      · skip
        have q43 : ¬ cLeft e p = cLeft e q := fun z => c43 (((hR2.2.1.left hR2.1 hp).1).trans (z.trans ((hR2.2.1.left hR2.1 hq).1).symm))
        refine MV.aload_n dX12_alike_48 rfl ?_
        refine MV.iconst (v := nI 1) dX12_alike_49 (by decide) ?_
        refine MV.iconst (v := (bI false)) dX12_alike_50 (by decide) ?_
        refine MV.cV2 yoX12_passes ml_X12_421 im_X12_passes se_X12_passes dX12_alike_51 rfl (Nat.le_of_ble_eq_true rfl) (by omega) rfl (Nat.le_of_ble_eq_true rfl) (passes_M (T := T) (k := kW 0) (c := e) (byN := false) (by omega) (by decide) hw hR2 (relK0 (hqu.fr f2).1) rfl) ?_
        rintro _ s3 ⟨rfl, hR3, f3⟩
        refine MV.iinc (v := 1) dX12_alike_54 rfl (by decide) (by decide) rfl ?_
        refine MV.goto 24 dX12_alike_57 (by decide) ?_
        refine MV.weak [some (.ref a), some (.int (nI p)), some (.int (nI q)), some (.int (nI (i + 1)))] (by simp [leL, sto1, sto2, k2c, nI_1]) ?_
        exact ih (i + 1) _ _ (by omega) hR3 (f2.tr (frX.r1 f3)) (by rw [← hv, seekF, if_neg (by rw [decide_eq_false q43]; decide)])
      · skip
        have q43 : cLeft e p = cLeft e q := ((hR2.2.1.left hR2.1 hp).1).symm.trans (c43.trans ((hR2.2.1.left hR2.1 hq).1))
        refine MV.iload_n dX12_alike_46 rfl ?_
        refine MV.iret dX12_alike_47 rfl ?_
        exact ⟨by rw [← hv, seekF, if_pos (decide_eq_true q43)], f2⟩
  · skip
    have hno := noTwo hR.1 c11
    refine MV.iconst (v := (-1)) dX12_alike_14 (by decide) ?_
    refine MV.iret dX12_alike_15 rfl ?_
    exact ⟨by rw [aAlike, if_neg hno], frX.z⟩
