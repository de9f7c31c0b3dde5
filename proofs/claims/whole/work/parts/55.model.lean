/-! The model: small readers -/
def isManB (n x : Int32) : Bool := decide (¬ x < 0) && decide (¬ n ≤ x)
def isInchB (x : Int32) : Bool := decide (¬ x < 0) && decide (¬ 60 ≤ x)
def isEndB (x : Int32) : Bool := decide (x = 0) || decide (x = 1)
def mIn (s : St) (p : Nat) : Int32 := if nI p = s.1 48 then s.1 49 else s.2.1 5 p
def mLeft (s : St) (r p : Nat) : Int32 := mIn s p - s.2.1 40 (6 * r + p) - s.2.1 41 (6 * r + p)
def isLB (top e x : Int32) : Bool := decide (¬ x < top) && decide (¬ e ≤ x)
def mIsL (s : St) (r p : Nat) (x : Int32) : Bool := isLB (s.2.1 40 (6 * r + p)) (mIn s p - s.2.1 41 (6 * r + p)) x
def bitsF (x : Int32) : Nat → Int32
  | 0 => 0
  | k + 1 => bitsF x k + ((x >>> (nI k &&& 31)) &&& 1)
def lendF (fr to : Nat → Int32) (p : Int32) : Nat → Int32
  | 0 => 0
  | k + 1 => lendF fr to p k ||| (if to k = p then 1 <<< (fr k &&& 31) else 0)
def jcF (jo ja : Nat → Int32) (p : Int32) (t : Int32 → Bool) : Nat → Int32
  | 0 => 0
  | k + 1 => jcF jo ja p t k + (if jo k = p ∧ t (ja k) = true then 1 else 0)
def isJF (jo ja : Nat → Int32) (p x : Int32) : Nat → Nat → Bool
  | 0, _ => false
  | k + 1, i => if jo i = p ∧ ja i = x then true else isJF jo ja p x k (i + 1)
def hasB (f t : Int32) : Bool := decide (¬ t ≤ f)
def wAsB (tw dr : Int32) : Bool := decide (tw = 1) || (decide (¬ tw = 5) && decide (¬ dr < 50))
theorem rix (r p : Nat) : 6 * nI r + nI p = nI (6 * r + p) := by
  unfold nI
  rw [Int32.ofNat_add, Int32.ofNat_mul]
  rfl
theorem rixm (r : Nat) : 6 * nI r = nI (6 * r) := by
  unfold nI
  rw [Int32.ofNat_mul]
  rfl
set_option maxRecDepth 100000 in
set_option maxHeartbeats 1000000 in
theorem mIsMan_M {d n0 a : Nat} {κ : Kd} {h0 : Hp} (hd : 1 ≤ d) {s : St} {x : Int32} : MV MX12_isMan (d, 0, 0, n0, κ) a h0 s 0 [some (.ref a), some (.int (x))] [] (mR s (.int (bI (isManB (s.2.1 3 0) x)))) := by
  refine MV.iload_n dX12_isMan_0 rfl ?_
  refine MV.if_lt 18 dX12_isMan_1 (by decide) (fun c1 => ?_) (fun c1 => ?_)
  · skip
    refine MV.iconst (v := 0) dX12_isMan_18 (by decide) ?_
    refine MV.zret .boolean dX12_isMan_19 rfl (rfl) ?_
    exact ⟨by simp_all [isManB, -Int32.not_lt, -Int32.not_le, bI], rfl⟩
  · skip
    refine MV.iload_n dX12_isMan_4 rfl ?_
    refine MV.aload_n dX12_isMan_5 rfl ?_
    refine MV.getf 3 fl_X12_13 dX12_isMan_6 (by decide) rfl ?_
    refine MV.iconst (v := nI 0) dX12_isMan_9 (by decide) ?_
    refine MV.ald C12_in3 dX12_isMan_10 (rfl) (by omega) (by decide) ?_
    refine MV.icmp_ge 18 dX12_isMan_11 (by decide) (fun c11 => ?_) (fun c11 => ?_)
    · skip
      refine MV.iconst (v := 0) dX12_isMan_18 (by decide) ?_
      refine MV.zret .boolean dX12_isMan_19 rfl (rfl) ?_
      exact ⟨by simp_all [isManB, -Int32.not_lt, -Int32.not_le, bI], rfl⟩
    · skip
      refine MV.iconst (v := 1) dX12_isMan_14 (by decide) ?_
      refine MV.goto 19 dX12_isMan_15 (by decide) ?_
      refine MV.zret .boolean dX12_isMan_19 rfl (rfl) ?_
      exact ⟨by simp_all [isManB, -Int32.not_lt, -Int32.not_le, bI], rfl⟩
set_option maxRecDepth 100000 in
set_option maxHeartbeats 1000000 in
theorem mIn_M {d n0 a : Nat} {κ : Kd} {h0 : Hp} (hd : 1 ≤ d) {s : St} {p : Nat} (hp : p < 6) : MV MX12_inchesOf (d, 0, 0, n0, κ) a h0 s 0 [some (.ref a), some (.int (nI p))] [] (mR s (.int (mIn s p))) := by
  refine MV.iload_n dX12_inchesOf_0 rfl ?_
  refine MV.aload_n dX12_inchesOf_1 rfl ?_
  refine MV.getf 48 fl_X12_102 dX12_inchesOf_2 (by decide) rfl ?_
  refine MV.icmp_ne 15 dX12_inchesOf_5 (by decide) (fun c5 => ?_) (fun c5 => ?_)
  · skip
    refine MV.aload_n dX12_inchesOf_15 rfl ?_
    refine MV.getf 5 fl_X12_19 dX12_inchesOf_16 (by decide) rfl ?_
    refine MV.iload_n dX12_inchesOf_19 rfl ?_
    refine MV.ald C12_in5 dX12_inchesOf_20 (rfl) (by omega) (by decide) ?_
    refine MV.iret dX12_inchesOf_21 rfl ?_
    exact ⟨by simp_all [mIn], rfl⟩
  · skip
    refine MV.aload_n dX12_inchesOf_8 rfl ?_
    refine MV.getf 49 fl_X12_340 dX12_inchesOf_9 (by decide) rfl ?_
    refine MV.goto 21 dX12_inchesOf_12 (by decide) ?_
    refine MV.iret dX12_inchesOf_21 rfl ?_
    exact ⟨by simp_all [mIn], rfl⟩
set_option maxRecDepth 100000 in
set_option maxHeartbeats 1000000 in
theorem mLeft_M {d n0 a : Nat} {κ : Kd} {h0 : Hp} (hd : 2 ≤ d) {s : St} {r p : Nat} (hr : r < 23) (hp : p < 6) : MV MX12_leftOf (d, 0, 0, n0, κ) a h0 s 0 [some (.ref a), some (.int (nI r)), some (.int (nI p))] [] (mR s (.int (mLeft s r p))) := by
  refine MV.aload_n dX12_leftOf_0 rfl ?_
  refine MV.iload_n dX12_leftOf_1 rfl ?_
  refine MV.cV1 yoX12_inchesOf ml_X12_343 im_X12_inchesOf se_X12_inchesOf dX12_leftOf_2 rfl (Nat.le_of_ble_eq_true rfl) (by omega) rfl (Nat.le_of_ble_eq_true rfl) (mIn_M (by omega) hp) (MV.rdK ?_)
  refine MV.aload_n dX12_leftOf_5 rfl ?_
  refine MV.getf 40 fl_X12_87 dX12_leftOf_6 (by decide) rfl ?_
  refine MV.bipush (v := 6) dX12_leftOf_9 (by decide) ?_
  refine MV.iload_n dX12_leftOf_11 rfl ?_
  refine MV.imul dX12_leftOf_12 ?_
  refine MV.iload_n dX12_leftOf_13 rfl ?_
  refine MV.iadd dX12_leftOf_14 ?_
  refine MV.ald C12_in40 dX12_leftOf_15 (rix _ _) (by omega) (by decide) ?_
  refine MV.isub dX12_leftOf_16 ?_
  refine MV.aload_n dX12_leftOf_17 rfl ?_
  refine MV.getf 41 fl_X12_90 dX12_leftOf_18 (by decide) rfl ?_
  refine MV.bipush (v := 6) dX12_leftOf_21 (by decide) ?_
  refine MV.iload_n dX12_leftOf_23 rfl ?_
  refine MV.imul dX12_leftOf_24 ?_
  refine MV.iload_n dX12_leftOf_25 rfl ?_
  refine MV.iadd dX12_leftOf_26 ?_
  refine MV.ald C12_in41 dX12_leftOf_27 (rix _ _) (by omega) (by decide) ?_
  refine MV.isub dX12_leftOf_28 ?_
  refine MV.iret dX12_leftOf_29 rfl ?_
  exact ⟨rfl, rfl⟩
set_option maxRecDepth 100000 in
set_option maxHeartbeats 1000000 in
theorem mIsL_M {d n0 a : Nat} {κ : Kd} {h0 : Hp} (hd : 2 ≤ d) {s : St} {r p : Nat} (hr : r < 23) (hp : p < 6) {x : Int32} : MV MX12_isLeft (d, 0, 0, n0, κ) a h0 s 0 [some (.ref a), some (.int (nI r)), some (.int (nI p)), some (.int (x))] [] (mR s (.int (bI (mIsL s r p x)))) := by
  refine MV.iload_n dX12_isLeft_0 rfl ?_
  refine MV.aload_n dX12_isLeft_1 rfl ?_
  refine MV.getf 40 fl_X12_87 dX12_isLeft_2 (by decide) rfl ?_
  refine MV.bipush (v := 6) dX12_isLeft_5 (by decide) ?_
  refine MV.iload_n dX12_isLeft_7 rfl ?_
  refine MV.imul dX12_isLeft_8 ?_
  refine MV.iload_n dX12_isLeft_9 rfl ?_
  refine MV.iadd dX12_isLeft_10 ?_
  refine MV.ald C12_in40 dX12_isLeft_11 (rix _ _) (by omega) (by decide) ?_
  refine MV.icmp_lt 40 dX12_isLeft_12 (by decide) (fun c12 => ?_) (fun c12 => ?_)
  · skip
    refine MV.iconst (v := 0) dX12_isLeft_40 (by decide) ?_
    refine MV.zret .boolean dX12_isLeft_41 rfl (rfl) ?_
    exact ⟨by simp_all [mIsL, isLB, -Int32.not_lt, -Int32.not_le, bI], rfl⟩
  · skip
    refine MV.iload_n dX12_isLeft_15 rfl ?_
    refine MV.aload_n dX12_isLeft_16 rfl ?_
    refine MV.iload_n dX12_isLeft_17 rfl ?_
    refine MV.cV1 yoX12_inchesOf ml_X12_343 im_X12_inchesOf se_X12_inchesOf dX12_isLeft_18 rfl (Nat.le_of_ble_eq_true rfl) (by omega) rfl (Nat.le_of_ble_eq_true rfl) (mIn_M (by omega) hp) (MV.rdK ?_)
    refine MV.aload_n dX12_isLeft_21 rfl ?_
    refine MV.getf 41 fl_X12_90 dX12_isLeft_22 (by decide) rfl ?_
    refine MV.bipush (v := 6) dX12_isLeft_25 (by decide) ?_
    refine MV.iload_n dX12_isLeft_27 rfl ?_
    refine MV.imul dX12_isLeft_28 ?_
    refine MV.iload_n dX12_isLeft_29 rfl ?_
    refine MV.iadd dX12_isLeft_30 ?_
    refine MV.ald C12_in41 dX12_isLeft_31 (rix _ _) (by omega) (by decide) ?_
    refine MV.isub dX12_isLeft_32 ?_
    refine MV.icmp_ge 40 dX12_isLeft_33 (by decide) (fun c33 => ?_) (fun c33 => ?_)
    · skip
      refine MV.iconst (v := 0) dX12_isLeft_40 (by decide) ?_
      refine MV.zret .boolean dX12_isLeft_41 rfl (rfl) ?_
      exact ⟨by simp_all [mIsL, isLB, -Int32.not_lt, -Int32.not_le, bI], rfl⟩
    · skip
      refine MV.iconst (v := 1) dX12_isLeft_36 (by decide) ?_
      refine MV.goto 41 dX12_isLeft_37 (by decide) ?_
      refine MV.zret .boolean dX12_isLeft_41 rfl (rfl) ?_
      exact ⟨by simp_all [mIsL, isLB, -Int32.not_lt, -Int32.not_le, bI], rfl⟩
set_option maxRecDepth 100000 in
set_option maxHeartbeats 1000000 in
theorem hasLaw_M {d n0 a : Nat} {κ : Kd} {h0 : Hp} (hd : 1 ≤ d) {s : St} {k : Nat} (hk : k < 6) : MV MX12_hasLaw (d, 0, 0, n0, κ) a h0 s 0 [some (.ref a), some (.int (nI k))] [] (mR s (.int (bI (hasB (s.2.1 16 k) (s.2.1 17 k))))) := by
  refine MV.aload_n dX12_hasLaw_0 rfl ?_
  refine MV.getf 17 fl_X12_55 dX12_hasLaw_1 (by decide) rfl ?_
  refine MV.iload_n dX12_hasLaw_4 rfl ?_
  refine MV.ald C12_in17 dX12_hasLaw_5 (rfl) (by omega) (by decide) ?_
  refine MV.aload_n dX12_hasLaw_6 rfl ?_
  refine MV.getf 16 fl_X12_52 dX12_hasLaw_7 (by decide) rfl ?_
  refine MV.iload_n dX12_hasLaw_10 rfl ?_
  refine MV.ald C12_in16 dX12_hasLaw_11 (rfl) (by omega) (by decide) ?_
  refine MV.icmp_le 19 dX12_hasLaw_12 (by decide) (fun c12 => ?_) (fun c12 => ?_)
  · skip
    refine MV.iconst (v := 0) dX12_hasLaw_19 (by decide) ?_
    refine MV.zret .boolean dX12_hasLaw_20 rfl (rfl) ?_
    exact ⟨by simp_all [hasB, -Int32.not_lt, -Int32.not_le, bI], rfl⟩
  · skip
    refine MV.iconst (v := 1) dX12_hasLaw_15 (by decide) ?_
    refine MV.goto 20 dX12_hasLaw_16 (by decide) ?_
    refine MV.zret .boolean dX12_hasLaw_20 rfl (rfl) ?_
    exact ⟨by simp_all [hasB, -Int32.not_lt, -Int32.not_le, bI], rfl⟩
set_option maxRecDepth 100000 in
set_option maxHeartbeats 1000000 in
theorem wAs_M {d n0 a : Nat} {κ : Kd} {h0 : Hp} (hd : 1 ≤ d) {s : St} : MV MX12_windyAsItGoes (d, 0, 0, n0, κ) a h0 s 0 [some (.ref a)] [] (mR s (.int (bI (wAsB (s.1 46) (s.2.1 3 5))))) := by
  refine MV.aload_n dX12_windyAsItGoes_0 rfl ?_
  refine MV.getf 46 fl_X12_375 dX12_windyAsItGoes_1 (by decide) rfl ?_
  refine MV.iconst (v := 1) dX12_windyAsItGoes_4 (by decide) ?_
  refine MV.icmp_eq 27 dX12_windyAsItGoes_5 (by decide) (fun c5 => ?_) (fun c5 => ?_)
  · skip
    refine MV.iconst (v := 1) dX12_windyAsItGoes_27 (by decide) ?_
    refine MV.goto 32 dX12_windyAsItGoes_28 (by decide) ?_
    refine MV.zret .boolean dX12_windyAsItGoes_32 rfl (rfl) ?_
    exact ⟨by simp_all [wAsB, -Int32.not_lt, -Int32.not_le, bI], rfl⟩
  · skip
    refine MV.aload_n dX12_windyAsItGoes_8 rfl ?_
    refine MV.getf 46 fl_X12_375 dX12_windyAsItGoes_9 (by decide) rfl ?_
    refine MV.iconst (v := 5) dX12_windyAsItGoes_12 (by decide) ?_
    refine MV.icmp_eq 31 dX12_windyAsItGoes_13 (by decide) (fun c13 => ?_) (fun c13 => ?_)
    · skip
      refine MV.iconst (v := 0) dX12_windyAsItGoes_31 (by decide) ?_
      refine MV.zret .boolean dX12_windyAsItGoes_32 rfl (rfl) ?_
      exact ⟨by simp_all [wAsB, -Int32.not_lt, -Int32.not_le, bI], rfl⟩
    · skip
      refine MV.aload_n dX12_windyAsItGoes_16 rfl ?_
      refine MV.getf 3 fl_X12_13 dX12_windyAsItGoes_17 (by decide) rfl ?_
      refine MV.iconst (v := nI 5) dX12_windyAsItGoes_20 (by decide) ?_
      refine MV.ald C12_in3 dX12_windyAsItGoes_21 (rfl) (by omega) (by decide) ?_
      refine MV.bipush (v := 50) dX12_windyAsItGoes_22 (by decide) ?_
      refine MV.icmp_lt 31 dX12_windyAsItGoes_24 (by decide) (fun c24 => ?_) (fun c24 => ?_)
      · skip
        refine MV.iconst (v := 0) dX12_windyAsItGoes_31 (by decide) ?_
        refine MV.zret .boolean dX12_windyAsItGoes_32 rfl (rfl) ?_
        exact ⟨by simp_all [wAsB, -Int32.not_lt, -Int32.not_le, bI], rfl⟩
      · skip
        refine MV.iconst (v := 1) dX12_windyAsItGoes_27 (by decide) ?_
        refine MV.goto 32 dX12_windyAsItGoes_28 (by decide) ?_
        refine MV.zret .boolean dX12_windyAsItGoes_32 rfl (rfl) ?_
        exact ⟨by simp_all [wAsB, -Int32.not_lt, -Int32.not_le, bI], rfl⟩
set_option maxRecDepth 100000 in
set_option maxHeartbeats 1000000 in
theorem knownMany_M {d n0 a : Nat} {κ : Kd} {h0 : Hp} (hd : 1 ≤ d) {s : St} : MV MX12_knownMany (d, 0, 0, n0, κ) a h0 s 0 [some (.ref a)] [] (mR s (.int (if s.1 56 = -1 then s.1 55 else s.1 56))) := by
  refine MV.aload_n dX12_knownMany_0 rfl ?_
  refine MV.getf 56 fl_X12_117 dX12_knownMany_1 (by decide) rfl ?_
  refine MV.iconst (v := (-1)) dX12_knownMany_4 (by decide) ?_
  refine MV.icmp_ne 15 dX12_knownMany_5 (by decide) (fun c5 => ?_) (fun c5 => ?_)
  · skip
    refine MV.aload_n dX12_knownMany_15 rfl ?_
    refine MV.getf 56 fl_X12_117 dX12_knownMany_16 (by decide) rfl ?_
    refine MV.iret dX12_knownMany_19 rfl ?_
    exact ⟨by simp_all, rfl⟩
  · skip
    refine MV.aload_n dX12_knownMany_8 rfl ?_
    refine MV.getf 55 fl_X12_307 dX12_knownMany_9 (by decide) rfl ?_
    refine MV.goto 19 dX12_knownMany_12 (by decide) ?_
    refine MV.iret dX12_knownMany_19 rfl ?_
    exact ⟨by simp_all, rfl⟩
set_option maxRecDepth 100000 in
set_option maxHeartbeats 1000000 in
theorem isEnd_M {d n0 a : Nat} {κ : Kd} {h0 : Hp} (hd : 2 ≤ d) {s : St} {x e : Int32} : MV MX12_isEnd (d, 0, 0, n0, κ) a h0 s 0 [some (.ref a), some (.int (x)), some (.int (e))] [] (mR s (.int (bI (isManB (s.2.1 3 0) x && isEndB e)))) := by
  refine MV.aload_n dX12_isEnd_0 rfl ?_
  refine MV.iload_n dX12_isEnd_1 rfl ?_
  refine MV.cV1 yoX12_isMan ml_X12_425 im_X12_isMan se_X12_isMan dX12_isEnd_2 rfl (Nat.le_of_ble_eq_true rfl) (by omega) rfl (Nat.le_of_ble_eq_true rfl) (mIsMan_M (by omega)) (MV.rdK ?_)
  refine MV.if_eq 21 dX12_isEnd_5 (by decide) (fun c5 => ?_) (fun c5 => ?_)
  · skip
    refine MV.iconst (v := 0) dX12_isEnd_21 (by decide) ?_
    refine MV.zret .boolean dX12_isEnd_22 rfl (rfl) ?_
    exact ⟨by first | rw [bI_f c5]; rfl | (rw [bI_t c5]; simp_all [isEndB, bI]), rfl⟩
  · skip
    refine MV.iload_n dX12_isEnd_8 rfl ?_
    refine MV.if_eq 17 dX12_isEnd_9 (by decide) (fun c9 => ?_) (fun c9 => ?_)
    · skip
      refine MV.iconst (v := 1) dX12_isEnd_17 (by decide) ?_
      refine MV.goto 22 dX12_isEnd_18 (by decide) ?_
      refine MV.zret .boolean dX12_isEnd_22 rfl (rfl) ?_
      exact ⟨by first | rw [bI_f c5]; rfl | (rw [bI_t c5]; simp_all [isEndB, bI]), rfl⟩
    · skip
      refine MV.iload_n dX12_isEnd_12 rfl ?_
      refine MV.iconst (v := 1) dX12_isEnd_13 (by decide) ?_
      refine MV.icmp_ne 21 dX12_isEnd_14 (by decide) (fun c14 => ?_) (fun c14 => ?_)
      · skip
        refine MV.iconst (v := 0) dX12_isEnd_21 (by decide) ?_
        refine MV.zret .boolean dX12_isEnd_22 rfl (rfl) ?_
        exact ⟨by first | rw [bI_f c5]; rfl | (rw [bI_t c5]; simp_all [isEndB, bI]), rfl⟩
      · skip
        refine MV.iconst (v := 1) dX12_isEnd_17 (by decide) ?_
        refine MV.goto 22 dX12_isEnd_18 (by decide) ?_
        refine MV.zret .boolean dX12_isEnd_22 rfl (rfl) ?_
        exact ⟨by first | rw [bI_f c5]; rfl | (rw [bI_t c5]; simp_all [isEndB, bI]), rfl⟩
set_option maxRecDepth 100000 in
set_option maxHeartbeats 1000000 in
theorem areTwo_M {d n0 a : Nat} {κ : Kd} {h0 : Hp} (hd : 2 ≤ d) {s : St} {x y : Int32} : MV MX12_areTwo (d, 0, 0, n0, κ) a h0 s 0 [some (.ref a), some (.int (x)), some (.int (y))] [] (mR s (.int (bI (isManB (s.2.1 3 0) x && isManB (s.2.1 3 0) y && decide (¬ x = y))))) := by
  refine MV.aload_n dX12_areTwo_0 rfl ?_
  refine MV.iload_n dX12_areTwo_1 rfl ?_
  refine MV.cV1 yoX12_isMan ml_X12_425 im_X12_isMan se_X12_isMan dX12_areTwo_2 rfl (Nat.le_of_ble_eq_true rfl) (by omega) rfl (Nat.le_of_ble_eq_true rfl) (mIsMan_M (by omega)) (MV.rdK ?_)
  refine MV.if_eq 25 dX12_areTwo_5 (by decide) (fun c5 => ?_) (fun c5 => ?_)
  · skip
    refine MV.iconst (v := 0) dX12_areTwo_25 (by decide) ?_
    refine MV.zret .boolean dX12_areTwo_26 rfl (rfl) ?_
    exact ⟨by first | (rw [bI_f c5]; rfl) | (rw [bI_t c5, bI_f c13]; rfl) | (rw [bI_t c5, bI_t c13]; simp_all [bI]), rfl⟩
  · skip
    refine MV.aload_n dX12_areTwo_8 rfl ?_
    refine MV.iload_n dX12_areTwo_9 rfl ?_
    refine MV.cV1 yoX12_isMan ml_X12_425 im_X12_isMan se_X12_isMan dX12_areTwo_10 rfl (Nat.le_of_ble_eq_true rfl) (by omega) rfl (Nat.le_of_ble_eq_true rfl) (mIsMan_M (by omega)) (MV.rdK ?_)
    refine MV.if_eq 25 dX12_areTwo_13 (by decide) (fun c13 => ?_) (fun c13 => ?_)
    · skip
      refine MV.iconst (v := 0) dX12_areTwo_25 (by decide) ?_
      refine MV.zret .boolean dX12_areTwo_26 rfl (rfl) ?_
      exact ⟨by first | (rw [bI_f c5]; rfl) | (rw [bI_t c5, bI_f c13]; rfl) | (rw [bI_t c5, bI_t c13]; simp_all [bI]), rfl⟩
    · skip
      refine MV.iload_n dX12_areTwo_16 rfl ?_
      refine MV.iload_n dX12_areTwo_17 rfl ?_
      refine MV.icmp_eq 25 dX12_areTwo_18 (by decide) (fun c18 => ?_) (fun c18 => ?_)
      · skip
        refine MV.iconst (v := 0) dX12_areTwo_25 (by decide) ?_
        refine MV.zret .boolean dX12_areTwo_26 rfl (rfl) ?_
        exact ⟨by first | (rw [bI_f c5]; rfl) | (rw [bI_t c5, bI_f c13]; rfl) | (rw [bI_t c5, bI_t c13]; simp_all [bI]), rfl⟩
      · skip
        refine MV.iconst (v := 1) dX12_areTwo_21 (by decide) ?_
        refine MV.goto 26 dX12_areTwo_22 (by decide) ?_
        refine MV.zret .boolean dX12_areTwo_26 rfl (rfl) ?_
        exact ⟨by first | (rw [bI_f c5]; rfl) | (rw [bI_t c5, bI_f c13]; rfl) | (rw [bI_t c5, bI_t c13]; simp_all [bI]), rfl⟩
set_option maxRecDepth 100000 in
set_option maxHeartbeats 1000000 in
theorem mIsInch_V {d n0 : Nat} {κ : Kd} (hd : 1 ≤ d) {h : Hp} {x : Int32} : V MX12_isInch (d, 0, 0, n0, κ) 0 0 h 0 [some (.int (x))] [] (Rd h (.int (bI (isInchB x)))) := by
  refine V.iload_n dX12_isInch_0 rfl ?_
  refine V.if_lt 14 dX12_isInch_1 (by decide) (fun c1 => ?_) (fun c1 => ?_)
  · skip
    refine V.iconst (v := 0) dX12_isInch_14 (by decide) ?_
    refine V.zret .boolean dX12_isInch_15 rfl (rfl) ?_
    exact ⟨by simp_all [isInchB, -Int32.not_lt, -Int32.not_le, bI], rfl⟩
  · skip
    refine V.iload_n dX12_isInch_4 rfl ?_
    refine V.bipush (v := 60) dX12_isInch_5 (by decide) ?_
    refine V.icmp_ge 14 dX12_isInch_7 (by decide) (fun c7 => ?_) (fun c7 => ?_)
    · skip
      refine V.iconst (v := 0) dX12_isInch_14 (by decide) ?_
      refine V.zret .boolean dX12_isInch_15 rfl (rfl) ?_
      exact ⟨by simp_all [isInchB, -Int32.not_lt, -Int32.not_le, bI], rfl⟩
    · skip
      refine V.iconst (v := 1) dX12_isInch_10 (by decide) ?_
      refine V.goto 15 dX12_isInch_11 (by decide) ?_
      refine V.zret .boolean dX12_isInch_15 rfl (rfl) ?_
      exact ⟨by simp_all [isInchB, -Int32.not_lt, -Int32.not_le, bI], rfl⟩
set_option maxRecDepth 100000 in
set_option maxHeartbeats 1000000 in
theorem mIs_V {d n0 : Nat} {κ : Kd} (hd : 1 ≤ d) {h : Hp} {b : Bool} : V MX12_is (d, 0, 0, n0, κ) 0 0 h 0 [some (.int (bI b))] [] (Rd h (.long (iL b))) := by
  refine V.iload_n dX12_is_0 rfl ?_
  refine V.if_eq 8 dX12_is_1 (by decide) (fun c1 => ?_) (fun c1 => ?_)
  · skip
    refine V.lconst (v := 0) dX12_is_8 (by decide) ?_
    refine V.lret dX12_is_9 rfl ?_
    exact ⟨by cases b <;> simp_all [iL, bI], rfl⟩
  · skip
    refine V.lconst (v := 1) dX12_is_4 (by decide) ?_
    refine V.goto 9 dX12_is_5 (by decide) ?_
    refine V.lret dX12_is_9 rfl ?_
    exact ⟨by cases b <;> simp_all [iL, bI], rfl⟩
set_option maxRecDepth 100000 in
set_option maxHeartbeats 1000000 in
theorem bitsOf_V {d n0 : Nat} {κ : Kd} (hd : 1 ≤ d) {h : Hp} {x : Int32} : V MX12_bitsOf (d, 0, 0, n0, κ) 0 0 h 0 [some (.int (x)), none, none] [] (Rd h (.int (bitsF x 30))) := by
  refine V.iconst (v := 0) dX12_bitsOf_0 (by decide) ?_
  refine V.istore_n dX12_bitsOf_1 (by decide) rfl ?_
  refine V.iconst (v := nI 0) dX12_bitsOf_2 (by decide) ?_
  refine V.istore_n dX12_bitsOf_3 (by decide) rfl ?_
  suffices hL : ∀ (k i : Nat), i + k = 30 → V MX12_bitsOf (d, 0, 0, n0, κ) 0 0 h 4 [some (.int (x)), some (.int (bitsF x i)), some (.int (nI i))] [] (Rd h (.int (bitsF x 30))) from hL (30) 0 (by omega)
  intro k
  induction k with
  | zero =>
    intro i hik
    have hin : i = 30 := by omega
    subst hin
    refine V.iload_n dX12_bitsOf_4 rfl ?_
    refine V.bipush (v := 30) dX12_bitsOf_5 (by decide) ?_
    refine V.icmp_ge 24 dX12_bitsOf_7 (by decide) (fun _ => ?_) (fun z => absurd (nI_le (a := 30) (b := 30) (by omega) (by omega)) z)
    refine V.iload_n dX12_bitsOf_24 rfl ?_
    refine V.iret dX12_bitsOf_25 rfl ?_
    exact ⟨rfl, rfl⟩
  | succ k ih =>
    intro i hik
    refine V.iload_n dX12_bitsOf_4 rfl ?_
    refine V.bipush (v := 30) dX12_bitsOf_5 (by decide) ?_
    refine V.icmp_ge 24 dX12_bitsOf_7 (by decide) (fun z => absurd z (nI_ge (b := 30) (by omega) (by omega))) (fun _ => ?_)
    refine V.iload_n dX12_bitsOf_10 rfl ?_
    refine V.iload_n dX12_bitsOf_11 rfl ?_
    refine V.iload_n dX12_bitsOf_12 rfl ?_
    refine V.ishr dX12_bitsOf_13 ?_
    refine V.iconst (v := 1) dX12_bitsOf_14 (by decide) ?_
    refine V.iand dX12_bitsOf_15 ?_
    refine V.iadd dX12_bitsOf_16 ?_
    refine V.istore_n dX12_bitsOf_17 (by decide) rfl ?_
    refine V.iinc (v := 1) dX12_bitsOf_18 rfl (by decide) (by decide) rfl ?_
    refine V.goto 4 dX12_bitsOf_21 (by decide) ?_
    refine V.weak [some (.int (x)), some (.int (bitsF x (i + 1))), some (.int (nI (i + 1)))] (by simp [leL, sto1, sto2, k2c, nI_1, bitsF]) ?_
    exact ih (i + 1) (by omega)
set_option maxRecDepth 100000 in
set_option maxHeartbeats 1000000 in
theorem lenders_M {d n0 a : Nat} {κ : Kd} {h0 : Hp} (hd : 1 ≤ d) {s : St} {p n : Nat} (hn : s.2.1 3 4 = nI n) (hn6 : n ≤ 8) : MV MX12_lendersOf (d, 0, 0, n0, κ) a h0 s 0 [some (.ref a), some (.int (nI p)), none, none] [] (mR s (.int (lendF (s.2.1 14) (s.2.1 15) (nI p) n))) := by
  refine MV.iconst (v := 0) dX12_lendersOf_0 (by decide) ?_
  refine MV.istore_n dX12_lendersOf_1 (by decide) rfl ?_
  refine MV.iconst (v := nI 0) dX12_lendersOf_2 (by decide) ?_
  refine MV.istore_n dX12_lendersOf_3 (by decide) rfl ?_
  suffices hL : ∀ (k i : Nat), i + k = n → MV MX12_lendersOf (d, 0, 0, n0, κ) a h0 s 4 [some (.ref a), some (.int (nI p)), some (.int (lendF (s.2.1 14) (s.2.1 15) (nI p) i)), some (.int (nI i))] [] (mR s (.int (lendF (s.2.1 14) (s.2.1 15) (nI p) n))) from hL (n) 0 (by omega)
  intro k
  induction k with
  | zero =>
    intro i hik
    have hin : i = n := by omega
    subst hin
    refine MV.iload_n dX12_lendersOf_4 rfl ?_
    refine MV.aload_n dX12_lendersOf_5 rfl ?_
    refine MV.getf 3 fl_X12_13 dX12_lendersOf_6 (by decide) rfl ?_
    refine MV.iconst (v := nI 4) dX12_lendersOf_9 (by decide) ?_
    refine MV.ald C12_in3 dX12_lendersOf_10 (rfl) (by omega) (by decide) ?_
    refine MV.icmp_ge 45 dX12_lendersOf_11 (by decide) (fun _ => ?_) (fun z => absurd (by rw [hn]; exact nI_le (Nat.le_refl _) (by omega)) z)
    refine MV.iload_n dX12_lendersOf_45 rfl ?_
    refine MV.iret dX12_lendersOf_46 rfl ?_
    exact ⟨rfl, rfl⟩
  | succ k ih =>
    intro i hik
    refine MV.iload_n dX12_lendersOf_4 rfl ?_
    refine MV.aload_n dX12_lendersOf_5 rfl ?_
    refine MV.getf 3 fl_X12_13 dX12_lendersOf_6 (by decide) rfl ?_
    refine MV.iconst (v := nI 4) dX12_lendersOf_9 (by decide) ?_
    refine MV.ald C12_in3 dX12_lendersOf_10 (rfl) (by omega) (by decide) ?_
    refine MV.icmp_ge 45 dX12_lendersOf_11 (by decide) (fun z => absurd z (by rw [hn]; exact nI_ge (by omega) (by omega))) (fun _ => ?_)
    refine MV.iload_n dX12_lendersOf_14 rfl ?_
    refine MV.aload_n dX12_lendersOf_15 rfl ?_
    refine MV.getf 15 fl_X12_49 dX12_lendersOf_16 (by decide) rfl ?_
    refine MV.iload_n dX12_lendersOf_19 rfl ?_
    refine MV.ald C12_in15 dX12_lendersOf_20 (rfl) (by omega) (by decide) ?_
    refine MV.iload_n dX12_lendersOf_21 rfl ?_
    refine MV.icmp_ne 36 dX12_lendersOf_22 (by decide) (fun c22 => ?_) (fun c22 => ?_)
    · skip
      refine MV.iconst (v := 0) dX12_lendersOf_36 (by decide) ?_
      refine MV.ior dX12_lendersOf_37 ?_
      refine MV.istore_n dX12_lendersOf_38 (by decide) rfl ?_
      refine MV.iinc (v := 1) dX12_lendersOf_39 rfl (by decide) (by decide) rfl ?_
      refine MV.goto 4 dX12_lendersOf_42 (by decide) ?_
      refine MV.weak [some (.ref a), some (.int (nI p)), some (.int (lendF (s.2.1 14) (s.2.1 15) (nI p) (i + 1))), some (.int (nI (i + 1)))] (by simp [leL, sto1, sto2, k2c, nI_1, lendF, *]) ?_
      exact ih (i + 1) (by omega)
    · skip
      refine MV.iconst (v := 1) dX12_lendersOf_25 (by decide) ?_
      refine MV.aload_n dX12_lendersOf_26 rfl ?_
      refine MV.getf 14 fl_X12_46 dX12_lendersOf_27 (by decide) rfl ?_
      refine MV.iload_n dX12_lendersOf_30 rfl ?_
      refine MV.ald C12_in14 dX12_lendersOf_31 (rfl) (by omega) (by decide) ?_
      refine MV.ishl dX12_lendersOf_32 ?_
      refine MV.goto 37 dX12_lendersOf_33 (by decide) ?_
      refine MV.ior dX12_lendersOf_37 ?_
      refine MV.istore_n dX12_lendersOf_38 (by decide) rfl ?_
      refine MV.iinc (v := 1) dX12_lendersOf_39 rfl (by decide) (by decide) rfl ?_
      refine MV.goto 4 dX12_lendersOf_42 (by decide) ?_
      refine MV.weak [some (.ref a), some (.int (nI p)), some (.int (lendF (s.2.1 14) (s.2.1 15) (nI p) (i + 1))), some (.int (nI (i + 1)))] (by simp [leL, sto1, sto2, k2c, nI_1, lendF, *]) ?_
      exact ih (i + 1) (by omega)
set_option maxRecDepth 100000 in
set_option maxHeartbeats 1000000 in
theorem litOnes_M {d n0 a : Nat} {κ : Kd} {h0 : Hp} (hd : 1 ≤ d) {s : St} {r n : Nat} (hr : r < 23) (hn : s.2.1 3 0 = nI n) (hn6 : n ≤ 6) : MV MX12_litOnes (d, 0, 0, n0, κ) a h0 s 0 [some (.ref a), some (.int (nI r)), none, none] [] (mR s (.int (litM (fun p => s.2.1 42 (6 * r + p)) n))) := by
  refine MV.iconst (v := 0) dX12_litOnes_0 (by decide) ?_
  refine MV.istore_n dX12_litOnes_1 (by decide) rfl ?_
  refine MV.iconst (v := nI 0) dX12_litOnes_2 (by decide) ?_
  refine MV.istore_n dX12_litOnes_3 (by decide) rfl ?_
  suffices hL : ∀ (k i : Nat), i + k = n → MV MX12_litOnes (d, 0, 0, n0, κ) a h0 s 4 [some (.ref a), some (.int (nI r)), some (.int (litM (fun p => s.2.1 42 (6 * r + p)) i)), some (.int (nI i))] [] (mR s (.int (litM (fun p => s.2.1 42 (6 * r + p)) n))) from hL (n) 0 (by omega)
  intro k
  induction k with
  | zero =>
    intro i hik
    have hin : i = n := by omega
    subst hin
    refine MV.iload_n dX12_litOnes_4 rfl ?_
    refine MV.aload_n dX12_litOnes_5 rfl ?_
    refine MV.getf 3 fl_X12_13 dX12_litOnes_6 (by decide) rfl ?_
    refine MV.iconst (v := nI 0) dX12_litOnes_9 (by decide) ?_
    refine MV.ald C12_in3 dX12_litOnes_10 (rfl) (by omega) (by decide) ?_
    refine MV.icmp_ge 44 dX12_litOnes_11 (by decide) (fun _ => ?_) (fun z => absurd (by rw [hn]; exact nI_le (Nat.le_refl _) (by omega)) z)
    refine MV.iload_n dX12_litOnes_44 rfl ?_
    refine MV.iret dX12_litOnes_45 rfl ?_
    exact ⟨rfl, rfl⟩
  | succ k ih =>
    intro i hik
    refine MV.iload_n dX12_litOnes_4 rfl ?_
    refine MV.aload_n dX12_litOnes_5 rfl ?_
    refine MV.getf 3 fl_X12_13 dX12_litOnes_6 (by decide) rfl ?_
    refine MV.iconst (v := nI 0) dX12_litOnes_9 (by decide) ?_
    refine MV.ald C12_in3 dX12_litOnes_10 (rfl) (by omega) (by decide) ?_
    refine MV.icmp_ge 44 dX12_litOnes_11 (by decide) (fun z => absurd z (by rw [hn]; exact nI_ge (by omega) (by omega))) (fun _ => ?_)
    refine MV.iload_n dX12_litOnes_14 rfl ?_
    refine MV.aload_n dX12_litOnes_15 rfl ?_
    refine MV.getf 42 fl_X12_93 dX12_litOnes_16 (by decide) rfl ?_
    refine MV.bipush (v := 6) dX12_litOnes_19 (by decide) ?_
    refine MV.iload_n dX12_litOnes_21 rfl ?_
    refine MV.imul dX12_litOnes_22 ?_
    refine MV.iload_n dX12_litOnes_23 rfl ?_
    refine MV.iadd dX12_litOnes_24 ?_
    refine MV.ald C12_in42 dX12_litOnes_25 (rix _ _) (by omega) (by decide) ?_
    refine MV.if_eq 35 dX12_litOnes_26 (by decide) (fun c26 => ?_) (fun c26 => ?_)
    · skip
      refine MV.iconst (v := 0) dX12_litOnes_35 (by decide) ?_
      refine MV.ior dX12_litOnes_36 ?_
      refine MV.istore_n dX12_litOnes_37 (by decide) rfl ?_
      refine MV.iinc (v := 1) dX12_litOnes_38 rfl (by decide) (by decide) rfl ?_
      refine MV.goto 4 dX12_litOnes_41 (by decide) ?_
      refine MV.weak [some (.ref a), some (.int (nI r)), some (.int (litM (fun p => s.2.1 42 (6 * r + p)) (i + 1))), some (.int (nI (i + 1)))] (by simp [leL, sto1, sto2, k2c, nI_1, litM, bitM, *]) ?_
      exact ih (i + 1) (by omega)
    · skip
      refine MV.iconst (v := 1) dX12_litOnes_29 (by decide) ?_
      refine MV.iload_n dX12_litOnes_30 rfl ?_
      refine MV.ishl dX12_litOnes_31 ?_
      refine MV.goto 36 dX12_litOnes_32 (by decide) ?_
      refine MV.ior dX12_litOnes_36 ?_
      refine MV.istore_n dX12_litOnes_37 (by decide) rfl ?_
      refine MV.iinc (v := 1) dX12_litOnes_38 rfl (by decide) (by decide) rfl ?_
      refine MV.goto 4 dX12_litOnes_41 (by decide) ?_
      refine MV.weak [some (.ref a), some (.int (nI r)), some (.int (litM (fun p => s.2.1 42 (6 * r + p)) (i + 1))), some (.int (nI (i + 1)))] (by simp [leL, sto1, sto2, k2c, nI_1, litM, bitM, *]) ?_
      exact ih (i + 1) (by omega)
set_option maxRecDepth 100000 in
set_option maxHeartbeats 1000000 in
theorem leftAll_M {d n0 a : Nat} {κ : Kd} {h0 : Hp} (hd : 3 ≤ d) {s : St} {r n : Nat} (hr : r < 23) (hn : s.2.1 3 0 = nI n) (hn6 : n ≤ 6) : MV MX12_leftAll (d, 0, 0, n0, κ) a h0 s 0 [some (.ref a), some (.int (nI r)), none, none] [] (mR s (.int (sumI (mLeft s r) n))) := by
  refine MV.iconst (v := 0) dX12_leftAll_0 (by decide) ?_
  refine MV.istore_n dX12_leftAll_1 (by decide) rfl ?_
  refine MV.iconst (v := nI 0) dX12_leftAll_2 (by decide) ?_
  refine MV.istore_n dX12_leftAll_3 (by decide) rfl ?_
  suffices hL : ∀ (k i : Nat), i + k = n → MV MX12_leftAll (d, 0, 0, n0, κ) a h0 s 4 [some (.ref a), some (.int (nI r)), some (.int (sumI (mLeft s r) i)), some (.int (nI i))] [] (mR s (.int (sumI (mLeft s r) n))) from hL (n) 0 (by omega)
  intro k
  induction k with
  | zero =>
    intro i hik
    have hin : i = n := by omega
    subst hin
    refine MV.iload_n dX12_leftAll_4 rfl ?_
    refine MV.aload_n dX12_leftAll_5 rfl ?_
    refine MV.getf 3 fl_X12_13 dX12_leftAll_6 (by decide) rfl ?_
    refine MV.iconst (v := nI 0) dX12_leftAll_9 (by decide) ?_
    refine MV.ald C12_in3 dX12_leftAll_10 (rfl) (by omega) (by decide) ?_
    refine MV.icmp_ge 29 dX12_leftAll_11 (by decide) (fun _ => ?_) (fun z => absurd (by rw [hn]; exact nI_le (Nat.le_refl _) (by omega)) z)
    refine MV.iload_n dX12_leftAll_29 rfl ?_
    refine MV.iret dX12_leftAll_30 rfl ?_
    exact ⟨rfl, rfl⟩
  | succ k ih =>
    intro i hik
    refine MV.iload_n dX12_leftAll_4 rfl ?_
    refine MV.aload_n dX12_leftAll_5 rfl ?_
    refine MV.getf 3 fl_X12_13 dX12_leftAll_6 (by decide) rfl ?_
    refine MV.iconst (v := nI 0) dX12_leftAll_9 (by decide) ?_
    refine MV.ald C12_in3 dX12_leftAll_10 (rfl) (by omega) (by decide) ?_
    refine MV.icmp_ge 29 dX12_leftAll_11 (by decide) (fun z => absurd z (by rw [hn]; exact nI_ge (by omega) (by omega))) (fun _ => ?_)
    refine MV.iload_n dX12_leftAll_14 rfl ?_
    refine MV.aload_n dX12_leftAll_15 rfl ?_
    refine MV.iload_n dX12_leftAll_16 rfl ?_
    refine MV.iload_n dX12_leftAll_17 rfl ?_
    refine MV.cV2 yoX12_leftOf ml_X12_353 im_X12_leftOf se_X12_leftOf dX12_leftAll_18 rfl (Nat.le_of_ble_eq_true rfl) (by omega) rfl (Nat.le_of_ble_eq_true rfl) (mLeft_M (by omega) hr (by omega)) (MV.rdK ?_)
    refine MV.iadd dX12_leftAll_21 ?_
    refine MV.istore_n dX12_leftAll_22 (by decide) rfl ?_
    refine MV.iinc (v := 1) dX12_leftAll_23 rfl (by decide) (by decide) rfl ?_
    refine MV.goto 4 dX12_leftAll_26 (by decide) ?_
    refine MV.weak [some (.ref a), some (.int (nI r)), some (.int (sumI (mLeft s r) (i + 1))), some (.int (nI (i + 1)))] (by simp [leL, sto1, sto2, k2c, nI_1, sumI]) ?_
    exact ih (i + 1) (by omega)
def cntF0 (f : Nat → Int32) : Nat → Int32
  | 0 => 0
  | k + 1 => cntF0 f k + (if f k = 0 then 1 else 0)
set_option maxRecDepth 100000 in
set_option maxHeartbeats 1000000 in
theorem outAll_M {d n0 a : Nat} {κ : Kd} {h0 : Hp} (hd : 3 ≤ d) {s : St} {r n : Nat} (hr : r < 23) (hn : s.2.1 3 0 = nI n) (hn6 : n ≤ 6) : MV MX12_outAll (d, 0, 0, n0, κ) a h0 s 0 [some (.ref a), some (.int (nI r)), none, none] [] (mR s (.int (cntF0 (mLeft s r) n))) := by
  refine MV.iconst (v := 0) dX12_outAll_0 (by decide) ?_
  refine MV.istore_n dX12_outAll_1 (by decide) rfl ?_
  refine MV.iconst (v := nI 0) dX12_outAll_2 (by decide) ?_
  refine MV.istore_n dX12_outAll_3 (by decide) rfl ?_
  suffices hL : ∀ (k i : Nat), i + k = n → MV MX12_outAll (d, 0, 0, n0, κ) a h0 s 4 [some (.ref a), some (.int (nI r)), some (.int (cntF0 (mLeft s r) i)), some (.int (nI i))] [] (mR s (.int (cntF0 (mLeft s r) n))) from hL (n) 0 (by omega)
  intro k
  induction k with
  | zero =>
    intro i hik
    have hin : i = n := by omega
    subst hin
    refine MV.iload_n dX12_outAll_4 rfl ?_
    refine MV.aload_n dX12_outAll_5 rfl ?_
    refine MV.getf 3 fl_X12_13 dX12_outAll_6 (by decide) rfl ?_
    refine MV.iconst (v := nI 0) dX12_outAll_9 (by decide) ?_
    refine MV.ald C12_in3 dX12_outAll_10 (rfl) (by omega) (by decide) ?_
    refine MV.icmp_ge 37 dX12_outAll_11 (by decide) (fun _ => ?_) (fun z => absurd (by rw [hn]; exact nI_le (Nat.le_refl _) (by omega)) z)
    refine MV.iload_n dX12_outAll_37 rfl ?_
    refine MV.iret dX12_outAll_38 rfl ?_
    exact ⟨rfl, rfl⟩
  | succ k ih =>
    intro i hik
    refine MV.iload_n dX12_outAll_4 rfl ?_
    refine MV.aload_n dX12_outAll_5 rfl ?_
    refine MV.getf 3 fl_X12_13 dX12_outAll_6 (by decide) rfl ?_
    refine MV.iconst (v := nI 0) dX12_outAll_9 (by decide) ?_
    refine MV.ald C12_in3 dX12_outAll_10 (rfl) (by omega) (by decide) ?_
    refine MV.icmp_ge 37 dX12_outAll_11 (by decide) (fun z => absurd z (by rw [hn]; exact nI_ge (by omega) (by omega))) (fun _ => ?_)
    refine MV.iload_n dX12_outAll_14 rfl ?_
    refine MV.aload_n dX12_outAll_15 rfl ?_
    refine MV.iload_n dX12_outAll_16 rfl ?_
    refine MV.iload_n dX12_outAll_17 rfl ?_
    refine MV.cV2 yoX12_leftOf ml_X12_353 im_X12_leftOf se_X12_leftOf dX12_outAll_18 rfl (Nat.le_of_ble_eq_true rfl) (by omega) rfl (Nat.le_of_ble_eq_true rfl) (mLeft_M (by omega) hr (by omega)) (MV.rdK ?_)
    refine MV.if_ne 28 dX12_outAll_21 (by decide) (fun c21 => ?_) (fun c21 => ?_)
    · skip
      refine MV.iconst (v := 0) dX12_outAll_28 (by decide) ?_
      refine MV.iadd dX12_outAll_29 ?_
      refine MV.istore_n dX12_outAll_30 (by decide) rfl ?_
      refine MV.iinc (v := 1) dX12_outAll_31 rfl (by decide) (by decide) rfl ?_
      refine MV.goto 4 dX12_outAll_34 (by decide) ?_
      refine MV.weak [some (.ref a), some (.int (nI r)), some (.int (cntF0 (mLeft s r) (i + 1))), some (.int (nI (i + 1)))] (by simp [leL, sto1, sto2, k2c, nI_1, cntF0, *]) ?_
      exact ih (i + 1) (by omega)
    · skip
      refine MV.iconst (v := 1) dX12_outAll_24 (by decide) ?_
      refine MV.goto 29 dX12_outAll_25 (by decide) ?_
      refine MV.iadd dX12_outAll_29 ?_
      refine MV.istore_n dX12_outAll_30 (by decide) rfl ?_
      refine MV.iinc (v := 1) dX12_outAll_31 rfl (by decide) (by decide) rfl ?_
      refine MV.goto 4 dX12_outAll_34 (by decide) ?_
      refine MV.weak [some (.ref a), some (.int (nI r)), some (.int (cntF0 (mLeft s r) (i + 1))), some (.int (nI (i + 1)))] (by simp [leL, sto1, sto2, k2c, nI_1, cntF0, *]) ?_
      exact ih (i + 1) (by omega)
set_option maxRecDepth 100000 in
set_option maxHeartbeats 1000000 in
theorem doesSee_M {d n0 a : Nat} {κ : Kd} {h0 : Hp} (hd : 2 ≤ d) {s : St} {p n : Nat} {lit : Int32} (hn : s.2.1 3 4 = nI n) (hn6 : n ≤ 8) : MV MX12_doesSee (d, 0, 0, n0, κ) a h0 s 0 [some (.ref a), some (.int (nI p)), some (.int (lit))] [] (mR s (.int (bI (seesB lit (lendF (s.2.1 14) (s.2.1 15) (nI p) n) p)))) := by
  refine MV.aload_n dX12_doesSee_0 rfl ?_
  refine MV.iload_n dX12_doesSee_1 rfl ?_
  refine MV.cV1 yoX12_lendersOf ml_X12_350 im_X12_lendersOf se_X12_lendersOf dX12_doesSee_2 rfl (Nat.le_of_ble_eq_true rfl) (by omega) rfl (Nat.le_of_ble_eq_true rfl) (lenders_M (by omega) hn hn6) (MV.rdK ?_)
  refine MV.iconst (v := 1) dX12_doesSee_5 (by decide) ?_
  refine MV.iload_n dX12_doesSee_6 rfl ?_
  refine MV.ishl dX12_doesSee_7 ?_
  refine MV.ior dX12_doesSee_8 ?_
  refine MV.iload_n dX12_doesSee_9 rfl ?_
  refine MV.iand dX12_doesSee_10 ?_
  refine MV.if_eq 18 dX12_doesSee_11 (by decide) (fun c11 => ?_) (fun c11 => ?_)
  · skip
    refine MV.iconst (v := 0) dX12_doesSee_18 (by decide) ?_
    refine MV.zret .boolean dX12_doesSee_19 rfl (rfl) ?_
    exact ⟨by simp_all [seesB, bitM, bI, Int32.and_comm], rfl⟩
  · skip
    refine MV.iconst (v := 1) dX12_doesSee_14 (by decide) ?_
    refine MV.goto 19 dX12_doesSee_15 (by decide) ?_
    refine MV.zret .boolean dX12_doesSee_19 rfl (rfl) ?_
    exact ⟨by simp_all [seesB, bitM, bI, Int32.and_comm], rfl⟩
set_option maxRecDepth 100000 in
set_option maxHeartbeats 1000000 in
theorem isJune_M {d n0 a : Nat} {κ : Kd} {h0 : Hp} (hd : 1 ≤ d) {s : St} {p n : Nat} {x : Int32} {R : Bool} (hn : s.2.1 3 1 = nI n) (hn6 : n ≤ 12) (hR : isJF (s.2.1 6) (s.2.1 7) (nI p) x n 0 = R) : MV MX12_isJune (d, 0, 0, n0, κ) a h0 s 0 [some (.ref a), some (.int (nI p)), some (.int (x)), none] [] (mR s (.int (bI R))) := by
  refine MV.iconst (v := nI 0) dX12_isJune_0 (by decide) ?_
  refine MV.istore_n dX12_isJune_1 (by decide) rfl ?_
  suffices hL : ∀ (k i : Nat), i + k = n → isJF (s.2.1 6) (s.2.1 7) (nI p) x k i = R → MV MX12_isJune (d, 0, 0, n0, κ) a h0 s 2 [some (.ref a), some (.int (nI p)), some (.int (x)), some (.int (nI i))] [] (mR s (.int (bI R))) from hL n 0 (by omega) hR
  intro k
  induction k with
  | zero =>
    intro i hik hv
    have hin : i = n := by omega
    subst hin
    refine MV.iload_n dX12_isJune_2 rfl ?_
    refine MV.aload_n dX12_isJune_3 rfl ?_
    refine MV.getf 3 fl_X12_13 dX12_isJune_4 (by decide) rfl ?_
    refine MV.iconst (v := nI 1) dX12_isJune_7 (by decide) ?_
    refine MV.ald C12_in3 dX12_isJune_8 (rfl) (by omega) (by decide) ?_
    refine MV.icmp_ge 40 dX12_isJune_9 (by decide) (fun _ => ?_) (fun z => absurd (by rw [hn]; exact nI_le (Nat.le_refl _) (by omega)) z)
    refine MV.iconst (v := 0) dX12_isJune_40 (by decide) ?_
    refine MV.zret .boolean dX12_isJune_41 rfl (rfl) ?_
    exact ⟨by rw [← hv]; rfl, rfl⟩
  | succ k ih =>
    intro i hik hv
    refine MV.iload_n dX12_isJune_2 rfl ?_
    refine MV.aload_n dX12_isJune_3 rfl ?_
    refine MV.getf 3 fl_X12_13 dX12_isJune_4 (by decide) rfl ?_
    refine MV.iconst (v := nI 1) dX12_isJune_7 (by decide) ?_
    refine MV.ald C12_in3 dX12_isJune_8 (rfl) (by omega) (by decide) ?_
    refine MV.icmp_ge 40 dX12_isJune_9 (by decide) (fun z => absurd z (by rw [hn]; exact nI_ge (by omega) (by omega))) (fun _ => ?_)
    refine MV.aload_n dX12_isJune_12 rfl ?_
    refine MV.getf 6 fl_X12_22 dX12_isJune_13 (by decide) rfl ?_
    refine MV.iload_n dX12_isJune_16 rfl ?_
    refine MV.ald C12_in6 dX12_isJune_17 (rfl) (by omega) (by decide) ?_
    refine MV.iload_n dX12_isJune_18 rfl ?_
    refine MV.icmp_ne 34 dX12_isJune_19 (by decide) (fun c19 => ?_) (fun c19 => ?_)
    · skip
      have hv : isJF (s.2.1 6) (s.2.1 7) (nI p) x k (i + 1) = R := by rw [← hv, isJF, if_neg (fun z => c19 z.1)]
      refine MV.iinc (v := 1) dX12_isJune_34 rfl (by decide) (by decide) rfl ?_
      refine MV.goto 2 dX12_isJune_37 (by decide) ?_
      refine MV.weak [some (.ref a), some (.int (nI p)), some (.int (x)), some (.int (nI (i + 1)))] (by simp [leL, sto1, sto2, k2c, nI_1]) ?_
      exact ih (i + 1) (by omega) hv
    · skip
      refine MV.aload_n dX12_isJune_22 rfl ?_
      refine MV.getf 7 fl_X12_25 dX12_isJune_23 (by decide) rfl ?_
      refine MV.iload_n dX12_isJune_26 rfl ?_
      refine MV.ald C12_in7 dX12_isJune_27 (rfl) (by omega) (by decide) ?_
      refine MV.iload_n dX12_isJune_28 rfl ?_
      refine MV.icmp_ne 34 dX12_isJune_29 (by decide) (fun c29 => ?_) (fun c29 => ?_)
      · skip
        have hv : isJF (s.2.1 6) (s.2.1 7) (nI p) x k (i + 1) = R := by rw [← hv, isJF, if_neg (fun z => c29 z.2)]
        refine MV.iinc (v := 1) dX12_isJune_34 rfl (by decide) (by decide) rfl ?_
        refine MV.goto 2 dX12_isJune_37 (by decide) ?_
        refine MV.weak [some (.ref a), some (.int (nI p)), some (.int (x)), some (.int (nI (i + 1)))] (by simp [leL, sto1, sto2, k2c, nI_1]) ?_
        exact ih (i + 1) (by omega) hv
      · skip
        refine MV.iconst (v := 1) dX12_isJune_32 (by decide) ?_
        refine MV.zret .boolean dX12_isJune_33 rfl (rfl) ?_
        exact ⟨by rw [← hv, isJF, if_pos ⟨c19, c29⟩]; rfl, rfl⟩
set_option maxRecDepth 100000 in
set_option maxHeartbeats 1000000 in
theorem junesOf_M {d n0 a : Nat} {κ : Kd} {h0 : Hp} (hd : 3 ≤ d) {s : St} {r p n : Nat} (hr : r < 23) (hp : p < 6) (hn : s.2.1 3 1 = nI n) (hn6 : n ≤ 12) : MV MX12_junesOf (d, 0, 0, n0, κ) a h0 s 0 [some (.ref a), some (.int (nI r)), some (.int (nI p)), none, none] [] (mR s (.int (jcF (s.2.1 6) (s.2.1 7) (nI p) (mIsL s r p) n))) := by
  refine MV.iconst (v := 0) dX12_junesOf_0 (by decide) ?_
  refine MV.istore_n dX12_junesOf_1 (by decide) rfl ?_
  refine MV.iconst (v := nI 0) dX12_junesOf_2 (by decide) ?_
  refine MV.istore dX12_junesOf_3 (by decide) rfl ?_
  suffices hL : ∀ (k i : Nat), i + k = n → MV MX12_junesOf (d, 0, 0, n0, κ) a h0 s 5 [some (.ref a), some (.int (nI r)), some (.int (nI p)), some (.int (jcF (s.2.1 6) (s.2.1 7) (nI p) (mIsL s r p) i)), some (.int (nI i))] [] (mR s (.int (jcF (s.2.1 6) (s.2.1 7) (nI p) (mIsL s r p) n))) from hL (n) 0 (by omega)
  intro k
  induction k with
  | zero =>
    intro i hik
    have hin : i = n := by omega
    subst hin
    refine MV.iload dX12_junesOf_5 rfl ?_
    refine MV.aload_n dX12_junesOf_7 rfl ?_
    refine MV.getf 3 fl_X12_13 dX12_junesOf_8 (by decide) rfl ?_
    refine MV.iconst (v := nI 1) dX12_junesOf_11 (by decide) ?_
    refine MV.ald C12_in3 dX12_junesOf_12 (rfl) (by omega) (by decide) ?_
    refine MV.icmp_ge 57 dX12_junesOf_13 (by decide) (fun _ => ?_) (fun z => absurd (by rw [hn]; exact nI_le (Nat.le_refl _) (by omega)) z)
    refine MV.iload_n dX12_junesOf_57 rfl ?_
    refine MV.iret dX12_junesOf_58 rfl ?_
    exact ⟨rfl, rfl⟩
  | succ k ih =>
    intro i hik
    refine MV.iload dX12_junesOf_5 rfl ?_
    refine MV.aload_n dX12_junesOf_7 rfl ?_
    refine MV.getf 3 fl_X12_13 dX12_junesOf_8 (by decide) rfl ?_
    refine MV.iconst (v := nI 1) dX12_junesOf_11 (by decide) ?_
    refine MV.ald C12_in3 dX12_junesOf_12 (rfl) (by omega) (by decide) ?_
    refine MV.icmp_ge 57 dX12_junesOf_13 (by decide) (fun z => absurd z (by rw [hn]; exact nI_ge (by omega) (by omega))) (fun _ => ?_)
    refine MV.iload_n dX12_junesOf_16 rfl ?_
    refine MV.aload_n dX12_junesOf_17 rfl ?_
    refine MV.getf 6 fl_X12_22 dX12_junesOf_18 (by decide) rfl ?_
    refine MV.iload dX12_junesOf_21 rfl ?_
    refine MV.ald C12_in6 dX12_junesOf_23 (rfl) (by omega) (by decide) ?_
    refine MV.iload_n dX12_junesOf_24 rfl ?_
    refine MV.icmp_ne 48 dX12_junesOf_25 (by decide) (fun c25 => ?_) (fun c25 => ?_)
    · skip
      refine MV.iconst (v := 0) dX12_junesOf_48 (by decide) ?_
      refine MV.iadd dX12_junesOf_49 ?_
      refine MV.istore_n dX12_junesOf_50 (by decide) rfl ?_
      refine MV.iinc (v := 1) dX12_junesOf_51 rfl (by decide) (by decide) rfl ?_
      refine MV.goto 5 dX12_junesOf_54 (by decide) ?_
      refine MV.weak [some (.ref a), some (.int (nI r)), some (.int (nI p)), some (.int (jcF (s.2.1 6) (s.2.1 7) (nI p) (mIsL s r p) (i + 1))), some (.int (nI (i + 1)))] (by simp [leL, sto1, sto2, k2c, nI_1, jcF, bI, *]) ?_
      exact ih (i + 1) (by omega)
    · skip
      refine MV.aload_n dX12_junesOf_28 rfl ?_
      refine MV.iload_n dX12_junesOf_29 rfl ?_
      refine MV.iload_n dX12_junesOf_30 rfl ?_
      refine MV.aload_n dX12_junesOf_31 rfl ?_
      refine MV.getf 7 fl_X12_25 dX12_junesOf_32 (by decide) rfl ?_
      refine MV.iload dX12_junesOf_35 rfl ?_
      refine MV.ald C12_in7 dX12_junesOf_37 (rfl) (by omega) (by decide) ?_
      refine MV.cV3 yoX12_isLeft ml_X12_346 im_X12_isLeft se_X12_isLeft dX12_junesOf_38 rfl (Nat.le_of_ble_eq_true rfl) (by omega) rfl (Nat.le_of_ble_eq_true rfl) (mIsL_M (by omega) hr hp) (MV.rdK ?_)
      refine MV.if_eq 48 dX12_junesOf_41 (by decide) (fun c41 => ?_) (fun c41 => ?_)
      · skip
        have c41 := bI_f c41
        refine MV.iconst (v := 0) dX12_junesOf_48 (by decide) ?_
        refine MV.iadd dX12_junesOf_49 ?_
        refine MV.istore_n dX12_junesOf_50 (by decide) rfl ?_
        refine MV.iinc (v := 1) dX12_junesOf_51 rfl (by decide) (by decide) rfl ?_
        refine MV.goto 5 dX12_junesOf_54 (by decide) ?_
        refine MV.weak [some (.ref a), some (.int (nI r)), some (.int (nI p)), some (.int (jcF (s.2.1 6) (s.2.1 7) (nI p) (mIsL s r p) (i + 1))), some (.int (nI (i + 1)))] (by simp [leL, sto1, sto2, k2c, nI_1, jcF, bI, *]) ?_
        exact ih (i + 1) (by omega)
      · skip
        have c41 := bI_t c41
        refine MV.iconst (v := 1) dX12_junesOf_44 (by decide) ?_
        refine MV.goto 49 dX12_junesOf_45 (by decide) ?_
        refine MV.iadd dX12_junesOf_49 ?_
        refine MV.istore_n dX12_junesOf_50 (by decide) rfl ?_
        refine MV.iinc (v := 1) dX12_junesOf_51 rfl (by decide) (by decide) rfl ?_
        refine MV.goto 5 dX12_junesOf_54 (by decide) ?_
        refine MV.weak [some (.ref a), some (.int (nI r)), some (.int (nI p)), some (.int (jcF (s.2.1 6) (s.2.1 7) (nI p) (mIsL s r p) (i + 1))), some (.int (nI (i + 1)))] (by simp [leL, sto1, sto2, k2c, nI_1, jcF, bI, *]) ?_
        exact ih (i + 1) (by omega)
