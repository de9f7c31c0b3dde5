/-! The model: lengths, worstOf, ask -/
def wgF (S : Int32) (f e : Nat → Int32) (x : Int32) (k : Nat) : Int32 := if (S >>> (nI k &&& 31)) &&& 1 = 1 ∧ ¬ x < f k ∧ ¬ e k ≤ x then 1 else 0
def wsF (S : Int32) (f e : Nat → Int32) (x : Int32) : Nat → Int32
  | 0 => 0
  | k + 1 => wsF S f e x k + wgF S f e x k
def woF (S : Int32) (f e : Nat → Int32) (x : Int32) : Int32 := cMax (wsF S f e x 30) (bitsF S 30 - wsF S f e x 30)
def boF (W : Int32 → Int32) : Nat → Nat
  | 0 => 0
  | i + 1 => if W (nI (i + 1)) < W (nI (boF W i)) then i + 1 else boF W i
theorem wsF_congr {S x : Int32} {f e f2 e2 : Nat → Int32} : ∀ n, (∀ k, k < n → f k = f2 k ∧ e k = e2 k) → wsF S f e x n = wsF S f2 e2 x n := by
  intro n
  induction n with
  | zero => intro _; rfl
  | succ n ih => intro h; rw [wsF, wsF, ih (fun k hk => h k (by omega))]; unfold wgF; rw [(h n (by omega)).1, (h n (by omega)).2]
theorem woF_congr {S x : Int32} {f e f2 e2 : Nat → Int32} (h : ∀ k, k < 30 → f k = f2 k ∧ e k = e2 k) : woF S f e x = woF S f2 e2 x := by
  unfold woF
  rw [wsF_congr 30 h]
theorem boF_le {W : Int32 → Int32} : ∀ i, boF W i ≤ i := by
  intro i
  induction i with
  | zero => exact Nat.le_refl 0
  | succ i ih =>
    rw [boF]
    split
    · exact Nat.le_refl _
    · omega
def ftF (T : Tx) (p k : Nat) : Int32 := (hoursS T (kW 0) 63 true 20 (begL T p (k + 1))).2.1 3 p
def feF (T : Tx) (p k : Nat) : Int32 := nI (k + 1) - (hoursS T (kW 0) 63 true 20 (begL T p (k + 1))).2.1 4 p
def woA (T : Tx) (F : St) (p : Nat) (x : Int32) : Int32 := woF (mLenA T F p) (ftF T p) (feF T p) x
def aLengths (T : Tx) (F : St) (x : Int32) : Int32 := if isManB (T.1.1 0) x = true then mLenA T F (nat x) else -1
def aAsk (T : Tx) (F : St) (x y : Int32) : Int32 := if isManB (T.1.1 0) x = true ∧ (y = 0 ∨ y = 1) then
  (if y = 0 then nI (boF (woA T F (nat x)) 59) else woA T F (nat x) (nI (boF (woA T F (nat x)) 59))) else -1
theorem frL.q {s s' : St} (hqu : qui s) (h : frX s s') : frL s s' := ⟨frY.X h, (h.1 48 (by decide) (by decide) (by decide)).trans hqu.2⟩
theorem frL.z {s s' : St} (h : frL (mI s 0 0) s') : frL s s' := ⟨(frY.X frX.z).tr h.1, h.2⟩
set_option maxRecDepth 100000 in
set_option maxHeartbeats 1000000 in
theorem lengths_M {d n0 a : Nat} {κ : Kd} {h0 : Hp} (hd : 9 ≤ d) {T : Tx} {s F c : St} (hqu : qui s) (hw : wfT T) (hR : Rm T s 0 c) (hF : facR T s F) {x : Int32} : MV MX12_lengths (d, 0, 0, n0, κ) a h0 s 0 [some (.ref a), some (.int (x))] [] (fun v s' => v = some (.int (aLengths T F x)) ∧ frL s s') := by
  refine MV.aload_n dX12_lengths_0 rfl ?_
  refine MV.iconst (v := 0) dX12_lengths_1 (by decide) ?_
  refine MV.putf 0 fl_X12_148 dX12_lengths_2 (by decide) rfl (rfl) (rfl) C12_s0 ?_
  refine MV.aload_n dX12_lengths_5 rfl ?_
  refine MV.iload_n dX12_lengths_6 rfl ?_
  refine MV.cV1 yoX12_isMan ml_X12_425 im_X12_isMan se_X12_isMan dX12_lengths_7 rfl (Nat.le_of_ble_eq_true rfl) (by omega) rfl (Nat.le_of_ble_eq_true rfl) (mIsMan_M (by omega)) (MV.rdK ?_)
  refine MV.if_eq 21 dX12_lengths_10 (by decide) (fun c10 => ?_) (fun c10 => ?_)
  · skip
    have hno := noMan hR.1 c10
    refine MV.iconst (v := (-1)) dX12_lengths_21 (by decide) ?_
    refine MV.iret dX12_lengths_22 rfl ?_
    first
    | (refine ⟨?_, f2.z⟩; rw [aLengths, if_pos hman, hnat]; done)
    | (refine ⟨?_, frL.q hqu frX.z⟩; rw [aLengths, if_neg hno]; done)
  · skip
    obtain ⟨hman, p, rfl, hp, hp6, hnat⟩ := yesMan hR.1 c10
    refine MV.aload_n dX12_lengths_13 rfl ?_
    refine MV.iload_n dX12_lengths_14 rfl ?_
    refine MV.cV1 yoX12_lengthsOf ml_X12_520 im_X12_lengthsOf se_X12_lengthsOf dX12_lengths_15 rfl (Nat.le_of_ble_eq_true rfl) (by omega) rfl (Nat.le_of_ble_eq_true rfl) (lengthsOf_M (s := mI s 0 0) (T := T) (F := F) (by omega) hqu hw hR.1 hF hp6) ?_
    rintro _ s2 ⟨rfl, f2⟩
    refine MV.goto 22 dX12_lengths_18 (by decide) ?_
    refine MV.iret dX12_lengths_22 rfl ?_
    first
    | (refine ⟨?_, f2.z⟩; rw [aLengths, if_pos hman, hnat]; done)
    | (refine ⟨?_, frL.q hqu frX.z⟩; rw [aLengths, if_neg hno]; done)
set_option maxRecDepth 100000 in
set_option maxHeartbeats 1000000 in
theorem worstOf_M {d n0 a : Nat} {κ : Kd} {h0 : Hp} (hd : 2 ≤ d) {s : St} {S x : Int32} : MV MX12_worstOf (d, 0, 0, n0, κ) a h0 s 0 [some (.ref a), some (.int (S)), some (.int (x)), none, none] [] (mR s (.int (woF S (s.2.1 63) (s.2.1 64) x))) := by
  refine MV.iconst (v := 0) dX12_worstOf_0 (by decide) ?_
  refine MV.istore_n dX12_worstOf_1 (by decide) rfl ?_
  refine MV.iconst (v := nI 0) dX12_worstOf_2 (by decide) ?_
  refine MV.istore dX12_worstOf_3 (by decide) rfl ?_
  suffices hL : ∀ (k i : Nat), i + k = 30 → MV MX12_worstOf (d, 0, 0, n0, κ) a h0 s 5 [some (.ref a), some (.int (S)), some (.int (x)), some (.int (wsF S (s.2.1 63) (s.2.1 64) x i)), some (.int (nI i))] [] (mR s (.int (woF S (s.2.1 63) (s.2.1 64) x))) from hL (30) 0 (by omega)
  intro k
  induction k with
  | zero =>
    intro i hik
    have hin : i = 30 := by omega
    rw [hin]
    refine MV.iload dX12_worstOf_5 rfl ?_
    refine MV.bipush (v := 30) dX12_worstOf_7 (by decide) ?_
    refine MV.icmp_ge 58 dX12_worstOf_9 (by decide) (fun _ => ?_) (fun z => absurd (by exact nI_le (a := 30) (b := 30) (by omega) (by omega)) z)
    refine MV.iload_n dX12_worstOf_58 rfl ?_
    refine MV.iload_n dX12_worstOf_59 rfl ?_
    refine MV.cS1 yoX12_bitsOf ml_X12_356 st_X12_bitsOf dX12_worstOf_60 (Nat.le_of_ble_eq_true rfl) (by omega) rfl (Nat.le_of_ble_eq_true rfl) (fun h H => bitsOf_V (by omega)) ?_
    refine MV.iload_n dX12_worstOf_63 rfl ?_
    refine MV.isub dX12_worstOf_64 ?_
    refine MV.mmax ml_X12_459 st_J9_max_7cf53 ini_J9 co_J9_max_7cf53 dX12_worstOf_65 (by omega) (Nat.le_of_ble_eq_true rfl) ?_
    refine MV.iret dX12_worstOf_68 rfl ?_
    exact ⟨rfl, rfl⟩
  | succ k ih =>
    intro i hik
    refine MV.iload dX12_worstOf_5 rfl ?_
    refine MV.bipush (v := 30) dX12_worstOf_7 (by decide) ?_
    refine MV.icmp_ge 58 dX12_worstOf_9 (by decide) (fun z => absurd z (by exact nI_ge (a := i) (b := 30) (by omega) (by omega))) (fun _ => ?_)
    refine MV.iload_n dX12_worstOf_12 rfl ?_
    refine MV.iload_n dX12_worstOf_13 rfl ?_
    refine MV.iload dX12_worstOf_14 rfl ?_
    refine MV.ishr dX12_worstOf_16 ?_
    refine MV.iconst (v := 1) dX12_worstOf_17 (by decide) ?_
    refine MV.iand dX12_worstOf_18 ?_
    refine MV.iconst (v := 1) dX12_worstOf_19 (by decide) ?_
    refine MV.icmp_ne 49 dX12_worstOf_20 (by decide) (fun c20 => ?_) (fun c20 => ?_)
    · skip
      have hg : ¬ ((S >>> (nI i &&& 31)) &&& 1 = 1 ∧ ¬ x < s.2.1 63 i ∧ ¬ s.2.1 64 i ≤ x) := fun z => c20 z.1
      have hv : wgF S (s.2.1 63) (s.2.1 64) x i = 0 := if_neg hg
      refine MV.iconst (v := 0) dX12_worstOf_49 (by decide) ?_
      refine MV.iadd dX12_worstOf_50 ?_
      refine MV.istore_n dX12_worstOf_51 (by decide) rfl ?_
      refine MV.iinc (v := 1) dX12_worstOf_52 rfl (by decide) (by decide) rfl ?_
      refine MV.goto 5 dX12_worstOf_55 (by decide) ?_
      refine MV.weak [some (.ref a), some (.int (S)), some (.int (x)), some (.int (wsF S (s.2.1 63) (s.2.1 64) x (i + 1))), some (.int (nI (i + 1)))] (by simp [leL, sto1, sto2, k2c, nI_1, wsF, hv]) ?_
      exact ih (i + 1) (by omega)
    · skip
      refine MV.iload_n dX12_worstOf_23 rfl ?_
      refine MV.aload_n dX12_worstOf_24 rfl ?_
      refine MV.getf 63 fl_X12_139 dX12_worstOf_25 (by decide) rfl ?_
      refine MV.iload dX12_worstOf_28 rfl ?_
      refine MV.ald C12_in63 dX12_worstOf_30 (rfl) (by omega) (by decide) ?_
      refine MV.icmp_lt 49 dX12_worstOf_31 (by decide) (fun c31 => ?_) (fun c31 => ?_)
      · skip
        have hg : ¬ ((S >>> (nI i &&& 31)) &&& 1 = 1 ∧ ¬ x < s.2.1 63 i ∧ ¬ s.2.1 64 i ≤ x) := fun z => z.2.1 c31
        have hv : wgF S (s.2.1 63) (s.2.1 64) x i = 0 := if_neg hg
        refine MV.iconst (v := 0) dX12_worstOf_49 (by decide) ?_
        refine MV.iadd dX12_worstOf_50 ?_
        refine MV.istore_n dX12_worstOf_51 (by decide) rfl ?_
        refine MV.iinc (v := 1) dX12_worstOf_52 rfl (by decide) (by decide) rfl ?_
        refine MV.goto 5 dX12_worstOf_55 (by decide) ?_
        refine MV.weak [some (.ref a), some (.int (S)), some (.int (x)), some (.int (wsF S (s.2.1 63) (s.2.1 64) x (i + 1))), some (.int (nI (i + 1)))] (by simp [leL, sto1, sto2, k2c, nI_1, wsF, hv]) ?_
        exact ih (i + 1) (by omega)
      · skip
        refine MV.iload_n dX12_worstOf_34 rfl ?_
        refine MV.aload_n dX12_worstOf_35 rfl ?_
        refine MV.getf 64 fl_X12_142 dX12_worstOf_36 (by decide) rfl ?_
        refine MV.iload dX12_worstOf_39 rfl ?_
        refine MV.ald C12_in64 dX12_worstOf_41 (rfl) (by omega) (by decide) ?_
        refine MV.icmp_ge 49 dX12_worstOf_42 (by decide) (fun c42 => ?_) (fun c42 => ?_)
        · skip
          have hg : ¬ ((S >>> (nI i &&& 31)) &&& 1 = 1 ∧ ¬ x < s.2.1 63 i ∧ ¬ s.2.1 64 i ≤ x) := fun z => z.2.2 c42
          have hv : wgF S (s.2.1 63) (s.2.1 64) x i = 0 := if_neg hg
          refine MV.iconst (v := 0) dX12_worstOf_49 (by decide) ?_
          refine MV.iadd dX12_worstOf_50 ?_
          refine MV.istore_n dX12_worstOf_51 (by decide) rfl ?_
          refine MV.iinc (v := 1) dX12_worstOf_52 rfl (by decide) (by decide) rfl ?_
          refine MV.goto 5 dX12_worstOf_55 (by decide) ?_
          refine MV.weak [some (.ref a), some (.int (S)), some (.int (x)), some (.int (wsF S (s.2.1 63) (s.2.1 64) x (i + 1))), some (.int (nI (i + 1)))] (by simp [leL, sto1, sto2, k2c, nI_1, wsF, hv]) ?_
          exact ih (i + 1) (by omega)
        · skip
          have hv : wgF S (s.2.1 63) (s.2.1 64) x i = 1 := if_pos ⟨c20, c31, c42⟩
          refine MV.iconst (v := 1) dX12_worstOf_45 (by decide) ?_
          refine MV.goto 50 dX12_worstOf_46 (by decide) ?_
          refine MV.iadd dX12_worstOf_50 ?_
          refine MV.istore_n dX12_worstOf_51 (by decide) rfl ?_
          refine MV.iinc (v := 1) dX12_worstOf_52 rfl (by decide) (by decide) rfl ?_
          refine MV.goto 5 dX12_worstOf_55 (by decide) ?_
          refine MV.weak [some (.ref a), some (.int (S)), some (.int (x)), some (.int (wsF S (s.2.1 63) (s.2.1 64) x (i + 1))), some (.int (nI (i + 1)))] (by simp [leL, sto1, sto2, k2c, nI_1, wsF, hv]) ?_
          exact ih (i + 1) (by omega)
theorem rx1 (p : Nat) : 6 + nI p = nI (6 * 1 + p) := rix 1 p
set_option maxRecDepth 100000 in
set_option maxHeartbeats 4000000 in
theorem askLoop_M {d n0 a : Nat} {κ : Kd} {h0 : Hp} (hd : 8 ≤ d) {T : Tx} {s : St} (hqu : qui s) (hw : wfT T) (hT : relT T s.2.1) {p : Nat} (hp6 : p < 6) {S y A : Int32} {W : Int32 → Int32} (hW : ∀ x, woF S (ftF T p) (feF T p) x = W x) (hA0 : y = 0 → A = nI (boF W 59)) (hA1 : ¬ y = 0 → A = W (nI (boF W 59))) : ∀ (s2 : St), frY s s2 → s2.1 48 = nI p → MV MX12_ask (d, 0, 0, n0, κ) a h0 s2 38 [some (.ref a), some (.int (nI p)), some (.int (y)), some (.int (S)), some (.int (nI 0)), none] [] (fun v s' => v = some (.int (A)) ∧ frL s s') := by
  have hB : ∀ (s2 : St), frY s s2 → s2.1 48 = -1 → (∀ x, woF S (s2.2.1 63) (s2.2.1 64) x = W x) → ∀ (k i : Nat), i + k = 59 → MV MX12_ask (d, 0, 0, n0, κ) a h0 s2 118 [some (.ref a), some (.int (nI p)), some (.int (y)), some (.int (S)), some (.int (nI (boF W i))), some (.int (nI (i + 1)))] [] (fun v s' => v = some (.int (A)) ∧ frL s s') := by
    intro s2 f2 h48 hWx k
    induction k with
    | zero =>
      intro i hik
      have hi : i = 59 := by omega
      subst hi
      refine MV.iload dX12_ask_118 rfl ?_
      refine MV.bipush (v := 60) dX12_ask_120 (by decide) ?_
      refine MV.icmp_ge 152 dX12_ask_122 (by decide) (fun _ => ?_) (fun z => absurd (nI_le (a := 60) (b := 60) (by omega) (by omega)) z)
      refine MV.iload_n dX12_ask_152 rfl ?_
      refine MV.if_ne 161 dX12_ask_153 (by decide) (fun c153 => ?_) (fun c153 => ?_)
      · skip
        have hA := hA1 c153
        refine MV.aload_n dX12_ask_161 rfl ?_
        refine MV.iload_n dX12_ask_162 rfl ?_
        refine MV.iload dX12_ask_163 rfl ?_
        refine MV.cV2 yoX12_worstOf ml_X12_523 im_X12_worstOf se_X12_worstOf dX12_ask_165 rfl (Nat.le_of_ble_eq_true rfl) (by omega) rfl (Nat.le_of_ble_eq_true rfl) (worstOf_M (by omega)) (MV.rdK ?_)
        refine MV.iret dX12_ask_168 rfl ?_
        refine ⟨?_, f2, h48⟩
        rw [hA]
        try rw [hWx]
      · skip
        have hA := hA0 c153
        refine MV.iload dX12_ask_156 rfl ?_
        refine MV.goto 168 dX12_ask_158 (by decide) ?_
        refine MV.iret dX12_ask_168 rfl ?_
        refine ⟨?_, f2, h48⟩
        rw [hA]
        try rw [hWx]
    | succ k ih =>
      intro i hik
      refine MV.iload dX12_ask_118 rfl ?_
      refine MV.bipush (v := 60) dX12_ask_120 (by decide) ?_
      refine MV.icmp_ge 152 dX12_ask_122 (by decide) (fun z => absurd z (nI_ge (b := 60) (by omega) (by omega))) (fun _ => ?_)
      refine MV.aload_n dX12_ask_125 rfl ?_
      refine MV.iload_n dX12_ask_126 rfl ?_
      refine MV.iload dX12_ask_127 rfl ?_
      refine MV.cV2 yoX12_worstOf ml_X12_523 im_X12_worstOf se_X12_worstOf dX12_ask_129 rfl (Nat.le_of_ble_eq_true rfl) (by omega) rfl (Nat.le_of_ble_eq_true rfl) (worstOf_M (by omega)) (MV.rdK ?_)
      refine MV.eqi (W (nI (i + 1))) (hWx _) ?_
      refine MV.aload_n dX12_ask_132 rfl ?_
      refine MV.iload_n dX12_ask_133 rfl ?_
      refine MV.iload dX12_ask_134 rfl ?_
      refine MV.cV2 yoX12_worstOf ml_X12_523 im_X12_worstOf se_X12_worstOf dX12_ask_136 rfl (Nat.le_of_ble_eq_true rfl) (by omega) rfl (Nat.le_of_ble_eq_true rfl) (worstOf_M (by omega)) (MV.rdK ?_)
      refine MV.eqi (W (nI (boF W i))) (hWx _) ?_
      refine MV.icmp_ge 146 dX12_ask_139 (by decide) (fun c139 => ?_) (fun c139 => ?_)
      · skip
        have hb : boF W (i + 1) = boF W i := by
          rw [boF, if_neg (Int32.not_lt.mpr c139)]
        refine MV.iinc (v := 1) dX12_ask_146 rfl (by decide) (by decide) rfl ?_
        refine MV.goto 118 dX12_ask_149 (by decide) ?_
        refine MV.weak [some (.ref a), some (.int (nI p)), some (.int (y)), some (.int (S)), some (.int (nI (boF W (i + 1)))), some (.int (nI (i + 1 + 1)))] (by rw [hb]; simp [leL, sto1, sto2, k2c, nI_1]) ?_
        exact ih (i + 1) (by omega)
      · skip
        have hb : boF W (i + 1) = i + 1 := by
          rw [boF, if_pos (Int32.not_le.mp c139)]
        refine MV.iload dX12_ask_142 rfl ?_
        refine MV.istore dX12_ask_144 (by decide) rfl ?_
        refine MV.iinc (v := 1) dX12_ask_146 rfl (by decide) (by decide) rfl ?_
        refine MV.goto 118 dX12_ask_149 (by decide) ?_
        refine MV.weak [some (.ref a), some (.int (nI p)), some (.int (y)), some (.int (S)), some (.int (nI (boF W (i + 1)))), some (.int (nI (i + 1 + 1)))] (by rw [hb]; simp [leL, sto1, sto2, k2c, nI_1]) ?_
        exact ih (i + 1) (by omega)
  have hA : ∀ (k i : Nat) (s2 : St), i + k = 30 → frY s s2 → s2.1 48 = nI p → (∀ k, k < i → s2.2.1 63 k = ftF T p k ∧ s2.2.1 64 k = feF T p k) → MV MX12_ask (d, 0, 0, n0, κ) a h0 s2 38 [some (.ref a), some (.int (nI p)), some (.int (y)), some (.int (S)), some (.int (nI i)), none] [] (fun v s' => v = some (.int (A)) ∧ frL s s') := by
    intro k
    induction k with
    | zero =>
      intro i s2 hik f2 h48 hr
      have hi : i = 30 := by omega
      subst hi
      refine MV.iload dX12_ask_38 rfl ?_
      refine MV.bipush (v := 30) dX12_ask_40 (by decide) ?_
      refine MV.icmp_ge 107 dX12_ask_42 (by decide) (fun _ => ?_) (fun z => absurd (nI_le (a := 30) (b := 30) (by omega) (by omega)) z)
      refine MV.aload_n dX12_ask_107 rfl ?_
      refine MV.iconst (v := (-1)) dX12_ask_108 (by decide) ?_
      refine MV.putf 48 fl_X12_102 dX12_ask_109 (by decide) rfl (rfl) (rfl) C12_s48 ?_
      refine MV.iconst (v := nI 0) dX12_ask_112 (by decide) ?_
      refine MV.istore dX12_ask_113 (by decide) rfl ?_
      refine MV.iconst (v := nI 1) dX12_ask_115 (by decide) ?_
      refine MV.istore dX12_ask_116 (by decide) rfl ?_
      exact hB (mI s2 48 (-1)) (f2.tr (frY.i (by decide))) rfl (fun x => (woF_congr (fun k hk => hr k (by omega))).trans (hW x)) 59 0 (by omega)
    | succ k ih =>
      intro i s2 hik f2 h48 hr
      refine MV.iload dX12_ask_38 rfl ?_
      refine MV.bipush (v := 30) dX12_ask_40 (by decide) ?_
      refine MV.icmp_ge 107 dX12_ask_42 (by decide) (fun z => absurd z (nI_ge (a := i) (b := 30) (by omega) (by omega))) (fun _ => ?_)
      refine MV.aload_n dX12_ask_45 rfl ?_
      refine MV.iload dX12_ask_46 rfl ?_
      refine MV.iconst (v := 1) dX12_ask_48 (by decide) ?_
      refine MV.iadd dX12_ask_49 ?_
      refine MV.eqi (nI (i + 1)) (nI_1 i) ?_
      refine MV.putf 49 fl_X12_340 dX12_ask_50 (by decide) rfl (rfl) (rfl) C12_s49 ?_
      refine MV.aload_n dX12_ask_53 rfl ?_
      refine MV.iconst (v := nI 1) dX12_ask_54 (by decide) ?_
      refine MV.cV1 yoX12_starts ml_X12_337 im_X12_starts se_X12_starts dX12_ask_55 rfl (Nat.le_of_ble_eq_true rfl) (by omega) rfl (Nat.le_of_ble_eq_true rfl) (starts_M (by omega) (by decide)) ?_
      rintro _ s3 ⟨rfl, f3, hf, hz⟩
      have hR3 := begL_Rm (s := mI s2 49 (nI (i + 1))) (p := p) (L := i + 1) (f2.T hT) hp6 (by omega) h48 rfl f3 hf hz
      have h46 : s3.1 46 = 0 := ((f3.1 46 (by decide)).trans (f2.1 46 (by decide) (by decide) (by decide) (by decide) (by decide))).trans hqu.1
      refine MV.aload_n dX12_ask_58 rfl ?_
      refine MV.bipush (v := nI 20) dX12_ask_59 (by decide) ?_
      refine MV.cV1 yoX12_goesOn ml_X12_450 im_X12_goesOn se_X12_goesOn dX12_ask_61 rfl (Nat.le_of_ble_eq_true rfl) (by omega) rfl (Nat.le_of_ble_eq_true rfl) (goesOn_M (T := T) (k := kW 0) (c := begL T p (i + 1)) (n := 20) (by omega) (by decide) hw hR3 (relK0 h46)) ?_
      rintro _ s4 ⟨rfl, hR4, f4⟩
      have f5 : frR 1 (mI s2 49 (nI (i + 1))) s4 := f3.tr f4
      have f6 : frY s s4 := (f2.tr (frY.i (by decide))).tr (frY.X (frX.r1 f5))
      have h48' : s4.1 48 = nI p := (f5.1 48 (by decide)).trans h48
      have hr4 : ∀ k, k < i → s4.2.1 63 k = ftF T p k ∧ s4.2.1 64 k = feF T p k := fun k hk => ⟨(congrFun (f5.2.1 63 (by decide)) k).trans (hr k hk).1, (congrFun (f5.2.1 64 (by decide)) k).trans (hr k hk).2⟩
      obtain ⟨g1, g2, g3, g4⟩ := hR4.2.1.2.2.2.2.2.1 p hp6
      have e40 : s4.2.1 40 (6 * 1 + p) = ftF T p i := g1.symm
      have e41 : s4.2.1 41 (6 * 1 + p) = (hoursS T (kW 0) 63 true 20 (begL T p (i + 1))).2.1 4 p := g2.symm
      refine MV.aload_n dX12_ask_64 rfl ?_
      refine MV.getf 63 fl_X12_139 dX12_ask_65 (by decide) rfl ?_
      refine MV.iload dX12_ask_68 rfl ?_
      refine MV.aload_n dX12_ask_70 rfl ?_
      refine MV.getf 40 fl_X12_87 dX12_ask_71 (by decide) rfl ?_
      refine MV.bipush (v := 6) dX12_ask_74 (by decide) ?_
      refine MV.iload_n dX12_ask_76 rfl ?_
      refine MV.iadd dX12_ask_77 ?_
      refine MV.ald C12_in40 dX12_ask_78 (rx1 p) (by omega) (by decide) ?_
      refine MV.eqi (ftF T p i) e40 ?_
      refine MV.ast C12_in63 dX12_ask_79 (rfl) (by omega) (by decide) ?_
      refine MV.aload_n dX12_ask_80 rfl ?_
      refine MV.getf 64 fl_X12_142 dX12_ask_81 (by decide) rfl ?_
      refine MV.iload dX12_ask_84 rfl ?_
      refine MV.iload dX12_ask_86 rfl ?_
      refine MV.iconst (v := 1) dX12_ask_88 (by decide) ?_
      refine MV.iadd dX12_ask_89 ?_
      refine MV.eqi (nI (i + 1)) (nI_1 i) ?_
      refine MV.aload_n dX12_ask_90 rfl ?_
      refine MV.getf 41 fl_X12_90 dX12_ask_91 (by decide) rfl ?_
      refine MV.bipush (v := 6) dX12_ask_94 (by decide) ?_
      refine MV.iload_n dX12_ask_96 rfl ?_
      refine MV.iadd dX12_ask_97 ?_
      refine MV.ald C12_in41 dX12_ask_98 (rx1 p) (by omega) (by decide) ?_
      refine MV.isub dX12_ask_99 ?_
      refine MV.eqi (feF T p i) (congrArg (nI (i + 1) - ·) e41) ?_
      refine MV.ast C12_in64 dX12_ask_100 (rfl) (by omega) (by decide) ?_
      refine MV.iinc (v := 1) dX12_ask_101 rfl (by decide) (by decide) rfl ?_
      refine MV.goto 38 dX12_ask_104 (by decide) ?_
      refine MV.weak [some (.ref a), some (.int (nI p)), some (.int (y)), some (.int (S)), some (.int (nI (i + 1))), none] (by simp [leL, sto1, sto2, k2c, nI_1]) ?_
      refine ih (i + 1) _ (by omega) ((f6.tr (frY.X (frX.a (by decide)))).tr (frY.X (frX.a (by decide)))) h48' (fun k hk => ?_)
      refine ⟨?_, ?_⟩
      · rw [mA_ne (by decide), mA_at]
        by_cases e : k = i
        · rw [if_pos e, e]
        · rw [if_neg e]; exact (hr4 k (by omega)).1
      · rw [mA_at]
        by_cases e : k = i
        · rw [if_pos e, e]
        · rw [if_neg e, mA_ne (by decide)]; exact (hr4 k (by omega)).2
  intro s2 f2 h48
  exact hA 30 0 s2 (by omega) f2 h48 (fun k hk => absurd hk (by omega))
set_option maxRecDepth 100000 in
set_option maxHeartbeats 2000000 in
theorem ask_M {d n0 a : Nat} {κ : Kd} {h0 : Hp} (hd : 9 ≤ d) {T : Tx} {s F c : St} (hqu : qui s) (hw : wfT T) (hR : Rm T s 0 c) (hF : facR T s F) {x y : Int32} : MV MX12_ask (d, 0, 0, n0, κ) a h0 s 0 [some (.ref a), some (.int (x)), some (.int (y)), none, none, none] [] (fun v s' => v = some (.int (aAsk T F x y)) ∧ frL s s') := by
  refine MV.aload_n dX12_ask_0 rfl ?_
  refine MV.iconst (v := 0) dX12_ask_1 (by decide) ?_
  refine MV.putf 0 fl_X12_148 dX12_ask_2 (by decide) rfl (rfl) (rfl) C12_s0 ?_
  refine MV.aload_n dX12_ask_5 rfl ?_
  refine MV.iload_n dX12_ask_6 rfl ?_
  refine MV.cV1 yoX12_isMan ml_X12_425 im_X12_isMan se_X12_isMan dX12_ask_7 rfl (Nat.le_of_ble_eq_true rfl) (by omega) rfl (Nat.le_of_ble_eq_true rfl) (mIsMan_M (by omega)) (MV.rdK ?_)
  refine MV.if_eq 22 dX12_ask_10 (by decide) (fun c10 => ?_) (fun c10 => ?_)
  · skip
    have hno := noMan hR.1 c10
    have hA : aAsk T F x y = -1 := by
      unfold aAsk
      rw [if_neg (fun z => hno z.1)]
    refine MV.iconst (v := (-1)) dX12_ask_22 (by decide) ?_
    refine MV.iret dX12_ask_23 rfl ?_
    exact ⟨by rw [hA], frL.q hqu frX.z⟩
  · skip
    obtain ⟨hman, p, rfl, hp, hp6, hnat⟩ := yesMan hR.1 c10
    refine MV.iload_n dX12_ask_13 rfl ?_
    refine MV.if_lt 22 dX12_ask_14 (by decide) (fun c14 => ?_) (fun c14 => ?_)
    · skip
      have hA : aAsk T F (nI p) y = -1 := by
        unfold aAsk
        rw [if_neg (fun z => by rcases z.2 with q | q <;> (rw [q] at c14; exact absurd c14 (by decide)))]
      refine MV.iconst (v := (-1)) dX12_ask_22 (by decide) ?_
      refine MV.iret dX12_ask_23 rfl ?_
      exact ⟨by rw [hA], frL.q hqu frX.z⟩
    · skip
      refine MV.iload_n dX12_ask_17 rfl ?_
      refine MV.iconst (v := 1) dX12_ask_18 (by decide) ?_
      refine MV.icmp_le 24 dX12_ask_19 (by decide) (fun c19 => ?_) (fun c19 => ?_)
      · skip
        have hy : y = 0 ∨ y = 1 := by
          obtain ⟨q, hq, rfl⟩ := nI_of c14
          have : q ≤ 1 := Nat.not_lt.mp fun z => nI_ge (a := 1) (b := q) z hq c19
          have : q = 0 ∨ q = 1 := by omega
          rcases this with rfl | rfl
          · exact Or.inl rfl
          · exact Or.inr rfl
        refine MV.aload_n dX12_ask_24 rfl ?_
        refine MV.iload_n dX12_ask_25 rfl ?_
        refine MV.cV1 yoX12_lengthsOf ml_X12_520 im_X12_lengthsOf se_X12_lengthsOf dX12_ask_26 rfl (Nat.le_of_ble_eq_true rfl) (by omega) rfl (Nat.le_of_ble_eq_true rfl) (lengthsOf_M (s := mI s 0 0) (T := T) (F := F) (by omega) hqu hw hR.1 hF hp6) ?_
        rintro _ s2 ⟨rfl, f2⟩
        refine MV.istore_n dX12_ask_29 (by decide) rfl ?_
        refine MV.aload_n dX12_ask_30 rfl ?_
        refine MV.iload_n dX12_ask_31 rfl ?_
        refine MV.putf 48 fl_X12_102 dX12_ask_32 (by decide) rfl (rfl) (rfl) C12_s48 ?_
        refine MV.iconst (v := nI 0) dX12_ask_35 (by decide) ?_
        refine MV.istore dX12_ask_36 (by decide) rfl ?_
        exact askLoop_M (W := woA T F p) (by omega) hqu hw hR.1 hp6 (fun _ => rfl) (fun z => by unfold aAsk; rw [if_pos ⟨hman, hy⟩, if_pos z, hnat]) (fun z => by unfold aAsk; rw [if_pos ⟨hman, hy⟩, if_neg z, hnat]) (mI s2 48 (nI p)) (f2.z.1.tr (frY.i (by decide))) rfl
      · skip
        have hA : aAsk T F (nI p) y = -1 := by
          unfold aAsk
          rw [if_neg (fun z => by rcases z.2 with q | q <;> (rw [q] at c19; exact absurd (by decide) c19))]
        refine MV.iconst (v := (-1)) dX12_ask_22 (by decide) ?_
        refine MV.iret dX12_ask_23 rfl ?_
        exact ⟨by rw [hA], frL.q hqu frX.z⟩
