/-! The model: gains, takes, bestOf, game -/
def gF (T : Tx) (p i : Nat) : Int32 := if tJune T.1 p (nI i) = true then 1 else 0
def gnF (T : Tx) (p f : Nat) : Nat → Int32
  | 0 => 0
  | k + 1 => gnF T p f k + gF T p (f + k)
/-- what one turn gets, and how many the other then gets more -/
def tkF (T : Tx) (r : Nat → Int32) (p f n w h : Nat) : Int32 := gnF T p (if w = 0 then f else f + n - h) h - r (61 * (if w = 0 then f + h else f) + (n - h))
def bwF (T : Tx) (r : Nat → Int32) (p f n w : Nat) : Nat → Nat → Int32 → Int32
  | 0, _, x => x
  | j + 1, h, x => bwF T r p f n w j (h + 1) (cMax x (tkF T r p f n w h))
def beF (T : Tx) (r : Nat → Int32) (p f n : Nat) : Nat → Nat → Int32 → Int32
  | 0, _, x => x
  | j + 1, w, x => beF T r p f n j (w + 1) (bwF T r p f n w (if n < 2 then 1 else 2) 1 x)
theorem min2 {n : Nat} (h1 : 1 ≤ n) (hn : n < 2 ^ 31) : (if nI n < nI 2 then nI n else nI 2) = nI (if n < 2 then 1 else 2) := by
  by_cases h : n < 2
  · rw [if_pos (nI_lt h (by omega)), if_pos h, show n = 1 by omega]
  · rw [if_neg (fun z => absurd z (Int32.not_lt.mpr (nI_le (by omega) hn))), if_neg h]
theorem ixM (r n : Nat) : 61 * nI r + nI n = nI (61 * r + n) := by
  unfold nI
  apply Int32.toBitVec_inj.mp
  simp
set_option maxRecDepth 100000 in
set_option maxHeartbeats 1000000 in
theorem gains_M {d n0 a : Nat} {κ : Kd} {h0 : Hp} (hd : 2 ≤ d) {T : Tx} {s : St} (hT : relT T s.2.1) {p f n : Nat} (hp : p < 6) (hf : f + n ≤ 60) : MV MX12_gains (d, 0, 0, n0, κ) a h0 s 0 [some (.ref a), some (.int (nI p)), some (.int (nI f)), some (.int (nI n)), none, none] [] (mR s (.int (gnF T p f n))) := by
  refine MV.iconst (v := 0) dX12_gains_0 (by decide) ?_
  refine MV.istore dX12_gains_1 (by decide) rfl ?_
  refine MV.iconst (v := 0) dX12_gains_3 (by decide) ?_
  refine MV.istore dX12_gains_4 (by decide) rfl ?_
  suffices hL : ∀ (k i : Nat), i + k = n → MV MX12_gains (d, 0, 0, n0, κ) a h0 s 6 [some (.ref a), some (.int (nI p)), some (.int (nI f)), some (.int (nI n)), some (.int (gnF T p f i)), some (.int (nI i))] [] (mR s (.int (gnF T p f n))) from hL (n) 0 (by omega)
  intro k
  induction k with
  | zero =>
    intro i hik
    have hin : i = n := by omega
    subst hin
    refine MV.iload dX12_gains_6 rfl ?_
    refine MV.iload_n dX12_gains_8 rfl ?_
    refine MV.icmp_ge 40 dX12_gains_9 (by decide) (fun _ => ?_) (fun z => absurd (by exact nI_le (Nat.le_refl _) (by omega)) z)
    refine MV.iload dX12_gains_40 rfl ?_
    refine MV.iret dX12_gains_42 rfl ?_
    exact ⟨rfl, rfl⟩
  | succ k ih =>
    intro i hik
    refine MV.iload dX12_gains_6 rfl ?_
    refine MV.iload_n dX12_gains_8 rfl ?_
    refine MV.icmp_ge 40 dX12_gains_9 (by decide) (fun z => absurd z (by exact nI_ge (by omega) (by omega))) (fun _ => ?_)
    refine MV.iload dX12_gains_12 rfl ?_
    refine MV.aload_n dX12_gains_14 rfl ?_
    refine MV.iload_n dX12_gains_15 rfl ?_
    refine MV.iload_n dX12_gains_16 rfl ?_
    refine MV.iload dX12_gains_17 rfl ?_
    refine MV.iadd dX12_gains_19 ?_
    refine MV.eqi (nI (f + i)) (nI_add f i) ?_
    refine MV.cV2 yoX12_isJune ml_X12_431 im_X12_isJune se_X12_isJune dX12_gains_20 rfl (Nat.le_of_ble_eq_true rfl) (by omega) rfl (Nat.le_of_ble_eq_true rfl) (isJune_M (R := tJune T.1 p (nI (f + i))) (by omega) hT.2.1.1.1 (by have := hT.2.1.1.2; omega) (june_iff hT hp (by omega)).symm) (MV.rdK ?_)
    refine MV.if_eq 30 dX12_gains_23 (by decide) (fun c23 => ?_) (fun c23 => ?_)
    · skip
      have hg : gF T p (f + i) = 0 := by unfold gF; rw [bI_f c23]; rfl
      refine MV.iconst (v := 0) dX12_gains_30 (by decide) ?_
      refine MV.iadd dX12_gains_31 ?_
      refine MV.istore dX12_gains_32 (by decide) rfl ?_
      refine MV.iinc (v := 1) dX12_gains_34 rfl (by decide) (by decide) rfl ?_
      refine MV.goto 6 dX12_gains_37 (by decide) ?_
      refine MV.weak [some (.ref a), some (.int (nI p)), some (.int (nI f)), some (.int (nI n)), some (.int (gnF T p f (i + 1))), some (.int (nI (i + 1)))] (by simp [leL, sto1, sto2, k2c, nI_1, gnF, hg]) ?_
      exact ih (i + 1) (by omega)
    · skip
      have hg : gF T p (f + i) = 1 := by unfold gF; rw [bI_t c23]; rfl
      refine MV.iconst (v := 1) dX12_gains_26 (by decide) ?_
      refine MV.goto 31 dX12_gains_27 (by decide) ?_
      refine MV.iadd dX12_gains_31 ?_
      refine MV.istore dX12_gains_32 (by decide) rfl ?_
      refine MV.iinc (v := 1) dX12_gains_34 rfl (by decide) (by decide) rfl ?_
      refine MV.goto 6 dX12_gains_37 (by decide) ?_
      refine MV.weak [some (.ref a), some (.int (nI p)), some (.int (nI f)), some (.int (nI n)), some (.int (gnF T p f (i + 1))), some (.int (nI (i + 1)))] (by simp [leL, sto1, sto2, k2c, nI_1, gnF, hg]) ?_
      exact ih (i + 1) (by omega)
set_option maxRecDepth 100000 in
set_option maxHeartbeats 1000000 in
theorem takes0_M {d n0 a : Nat} {κ : Kd} {h0 : Hp} (hd : 3 ≤ d) {T : Tx} {s : St} (hT : relT T s.2.1) {p f n h : Nat} (hp : p < 6) (h1 : 1 ≤ h) (hh : h ≤ n) (hf : f + n ≤ 60) : MV MX12_takes (d, 0, 0, n0, κ) a h0 s 0 [some (.ref a), some (.int (nI p)), some (.int (nI f)), some (.int (nI n)), some (.int (nI 0)), some (.int (nI h)), none, none] [] (mR s (.int (tkF T (s.2.1 54) p f n 0 h))) := by
  refine MV.iload dX12_takes_0 rfl ?_
  refine MV.if_ne 9 dX12_takes_2 (by decide) (fun z => absurd (rfl) z) (fun _ => ?_)
  refine MV.iload_n dX12_takes_5 rfl ?_
  refine MV.goto 15 dX12_takes_6 (by decide) ?_
  refine MV.istore dX12_takes_15 (by decide) rfl ?_
  refine MV.iload dX12_takes_17 rfl ?_
  refine MV.if_ne 29 dX12_takes_19 (by decide) (fun z => absurd (rfl) z) (fun _ => ?_)
  refine MV.iload_n dX12_takes_22 rfl ?_
  refine MV.iload dX12_takes_23 rfl ?_
  refine MV.iadd dX12_takes_25 ?_
  refine MV.goto 30 dX12_takes_26 (by decide) ?_
  refine MV.eqi (nI (f + h)) (nI_add f h) ?_
  refine MV.istore dX12_takes_30 (by decide) rfl ?_
  refine MV.aload_n dX12_takes_32 rfl ?_
  refine MV.iload_n dX12_takes_33 rfl ?_
  refine MV.iload dX12_takes_34 rfl ?_
  refine MV.iload dX12_takes_36 rfl ?_
  refine MV.cV3 yoX12_gains ml_X12_485 im_X12_gains se_X12_gains dX12_takes_38 rfl (Nat.le_of_ble_eq_true rfl) (by omega) rfl (Nat.le_of_ble_eq_true rfl) (gains_M (by omega) hT hp (by omega)) (MV.rdK ?_)
  refine MV.aload_n dX12_takes_41 rfl ?_
  refine MV.getf 54 fl_X12_114 dX12_takes_42 (by decide) rfl ?_
  refine MV.bipush (v := 61) dX12_takes_45 (by decide) ?_
  refine MV.iload dX12_takes_47 rfl ?_
  refine MV.imul dX12_takes_49 ?_
  refine MV.iload_n dX12_takes_50 rfl ?_
  refine MV.iadd dX12_takes_51 ?_
  refine MV.iload dX12_takes_52 rfl ?_
  refine MV.isub dX12_takes_54 ?_
  refine MV.ald C12_in54 dX12_takes_55 (show 61 * nI (f + h) + nI n - nI h = nI (61 * (f + h) + (n - h)) by rw [ixM, nI_subI (by omega)]; congr 1; omega) (by omega) (by decide) ?_
  refine MV.isub dX12_takes_56 ?_
  refine MV.iret dX12_takes_57 rfl ?_
  exact ⟨rfl, rfl⟩
set_option maxRecDepth 100000 in
set_option maxHeartbeats 1000000 in
theorem takes1_M {d n0 a : Nat} {κ : Kd} {h0 : Hp} (hd : 3 ≤ d) {T : Tx} {s : St} (hT : relT T s.2.1) {p f n h : Nat} (hp : p < 6) (h1 : 1 ≤ h) (hh : h ≤ n) (hf : f + n ≤ 60) : MV MX12_takes (d, 0, 0, n0, κ) a h0 s 0 [some (.ref a), some (.int (nI p)), some (.int (nI f)), some (.int (nI n)), some (.int (nI 1)), some (.int (nI h)), none, none] [] (mR s (.int (tkF T (s.2.1 54) p f n 1 h))) := by
  refine MV.iload dX12_takes_0 rfl ?_
  refine MV.if_ne 9 dX12_takes_2 (by decide) (fun _ => ?_) (fun z => absurd z (show ¬ nI 1 = 0 by decide))
  refine MV.iload_n dX12_takes_9 rfl ?_
  refine MV.iload_n dX12_takes_10 rfl ?_
  refine MV.iadd dX12_takes_11 ?_
  refine MV.iload dX12_takes_12 rfl ?_
  refine MV.isub dX12_takes_14 ?_
  refine MV.eqi (nI (f + n - h)) (by rw [nI_add, nI_subI (by omega)]) ?_
  refine MV.istore dX12_takes_15 (by decide) rfl ?_
  refine MV.iload dX12_takes_17 rfl ?_
  refine MV.if_ne 29 dX12_takes_19 (by decide) (fun _ => ?_) (fun z => absurd z (show ¬ nI 1 = 0 by decide))
  refine MV.iload_n dX12_takes_29 rfl ?_
  refine MV.istore dX12_takes_30 (by decide) rfl ?_
  refine MV.aload_n dX12_takes_32 rfl ?_
  refine MV.iload_n dX12_takes_33 rfl ?_
  refine MV.iload dX12_takes_34 rfl ?_
  refine MV.iload dX12_takes_36 rfl ?_
  refine MV.cV3 yoX12_gains ml_X12_485 im_X12_gains se_X12_gains dX12_takes_38 rfl (Nat.le_of_ble_eq_true rfl) (by omega) rfl (Nat.le_of_ble_eq_true rfl) (gains_M (by omega) hT hp (by omega)) (MV.rdK ?_)
  refine MV.aload_n dX12_takes_41 rfl ?_
  refine MV.getf 54 fl_X12_114 dX12_takes_42 (by decide) rfl ?_
  refine MV.bipush (v := 61) dX12_takes_45 (by decide) ?_
  refine MV.iload dX12_takes_47 rfl ?_
  refine MV.imul dX12_takes_49 ?_
  refine MV.iload_n dX12_takes_50 rfl ?_
  refine MV.iadd dX12_takes_51 ?_
  refine MV.iload dX12_takes_52 rfl ?_
  refine MV.isub dX12_takes_54 ?_
  refine MV.ald C12_in54 dX12_takes_55 (show 61 * nI (f) + nI n - nI h = nI (61 * (f) + (n - h)) by rw [ixM, nI_subI (by omega)]; congr 1; omega) (by omega) (by decide) ?_
  refine MV.isub dX12_takes_56 ?_
  refine MV.iret dX12_takes_57 rfl ?_
  exact ⟨rfl, rfl⟩
theorem takes_M {d n0 a : Nat} {κ : Kd} {h0 : Hp} (hd : 3 ≤ d) {T : Tx} {s : St} (hT : relT T s.2.1) {p f n h : Nat} (hp : p < 6) (h1 : 1 ≤ h) (hh : h ≤ n) (hf : f + n ≤ 60) {w : Nat} (hw : w < 2) : MV MX12_takes (d, 0, 0, n0, κ) a h0 s 0 [some (.ref a), some (.int (nI p)), some (.int (nI f)), some (.int (nI n)), some (.int (nI w)), some (.int (nI h)), none, none] [] (mR s (.int (tkF T (s.2.1 54) p f n w h))) := by
  have : w = 0 ∨ w = 1 := by omega
  rcases this with rfl | rfl
  · exact takes0_M hd hT hp h1 hh hf
  · exact takes1_M hd hT hp h1 hh hf
set_option maxRecDepth 100000 in
set_option maxHeartbeats 1000000 in
theorem bestIn_M {d n0 a : Nat} {κ : Kd} {h0 : Hp} (hd : 4 ≤ d) {T : Tx} {s : St} (hT : relT T s.2.1) {p f n : Nat} (hp : p < 6) (hn : 1 ≤ n) (hf : f + n ≤ 60) {w : Nat} (hw : w < 2) {P : Option Value → St → Prop} : ∀ (j h : Nat) (x : Int32), 1 ≤ h → h + j = (if n < 2 then 1 else 2) + 1 → MV MX12_bestOf (d, 0, 0, n0, κ) a h0 s 50 [some (.ref a), some (.int (nI p)), some (.int (nI f)), some (.int (nI n)), some (.int (bwF T (s.2.1 54) p f n w j h x)), some (.int (nI w)), none] [] P → MV MX12_bestOf (d, 0, 0, n0, κ) a h0 s 16 [some (.ref a), some (.int (nI p)), some (.int (nI f)), some (.int (nI n)), some (.int (x)), some (.int (nI w)), some (.int (nI h))] [] P := by
  intro j
  induction j with
  | zero =>
    intro h x h1 hj hk
    skip
    refine MV.iload dX12_bestOf_16 rfl ?_
    refine MV.iconst (v := 2) dX12_bestOf_18 (by decide) ?_
    refine MV.iload_n dX12_bestOf_19 rfl ?_
    refine MV.mmin ml_X12_390 st_J9_min_7cf53 ini_J9 co_J9_min_7cf53 dX12_bestOf_20 (by omega) (Nat.le_of_ble_eq_true rfl) ?_
    have hm : (if n < 2 then 1 else 2) ≤ 2 := by split <;> omega
    refine MV.eqi (nI (if n < 2 then 1 else 2)) (min2 hn (by omega)) ?_
    refine MV.icmp_gt 50 dX12_bestOf_23 (by decide) (fun _ => ?_) (fun z => absurd (nI_lt (by omega) (by omega)) z)
    exact MV.weak [some (.ref a), some (.int (nI p)), some (.int (nI f)), some (.int (nI n)), some (.int (x)), some (.int (nI w)), none] (by simp [leL, sto1, sto2, k2c]) hk
  | succ j ih =>
    intro h x h1 hj hk
    skip
    refine MV.iload dX12_bestOf_16 rfl ?_
    refine MV.iconst (v := 2) dX12_bestOf_18 (by decide) ?_
    refine MV.iload_n dX12_bestOf_19 rfl ?_
    refine MV.mmin ml_X12_390 st_J9_min_7cf53 ini_J9 co_J9_min_7cf53 dX12_bestOf_20 (by omega) (Nat.le_of_ble_eq_true rfl) ?_
    have hm : (if n < 2 then 1 else 2) ≤ 2 := by split <;> omega
    refine MV.eqi (nI (if n < 2 then 1 else 2)) (min2 hn (by omega)) ?_
    refine MV.icmp_gt 50 dX12_bestOf_23 (by decide) (fun z => absurd z (nI_nlt (by omega) (by omega))) (fun _ => ?_)
    refine MV.iload dX12_bestOf_26 rfl ?_
    refine MV.aload_n dX12_bestOf_28 rfl ?_
    refine MV.iload_n dX12_bestOf_29 rfl ?_
    refine MV.iload_n dX12_bestOf_30 rfl ?_
    refine MV.iload_n dX12_bestOf_31 rfl ?_
    refine MV.iload dX12_bestOf_32 rfl ?_
    refine MV.iload dX12_bestOf_34 rfl ?_
    refine MV.cV5 yoX12_takes ml_X12_488 im_X12_takes se_X12_takes dX12_bestOf_36 rfl (Nat.le_of_ble_eq_true rfl) (by omega) rfl (Nat.le_of_ble_eq_true rfl) (takes_M (by omega) hT hp (by omega) (by split at hj <;> omega) hf hw) (MV.rdK ?_)
    refine MV.mmax ml_X12_459 st_J9_max_7cf53 ini_J9 co_J9_max_7cf53 dX12_bestOf_39 (by omega) (Nat.le_of_ble_eq_true rfl) ?_
    refine MV.istore dX12_bestOf_42 (by decide) rfl ?_
    refine MV.iinc (v := 1) dX12_bestOf_44 rfl (by decide) (by decide) rfl ?_
    refine MV.goto 16 dX12_bestOf_47 (by decide) ?_
    exact MV.weak [some (.ref a), some (.int (nI p)), some (.int (nI f)), some (.int (nI n)), some (.int (cMax x (tkF T (s.2.1 54) p f n w h))), some (.int (nI w)), some (.int (nI (h + 1)))] (by simp [leL, sto1, sto2, k2c, nI_1, cMax]) (ih (h + 1) _ (by omega) (by omega) hk)
set_option maxRecDepth 100000 in
set_option maxHeartbeats 1000000 in
theorem bestOf_M {d n0 a : Nat} {κ : Kd} {h0 : Hp} (hd : 4 ≤ d) {T : Tx} {s : St} (hT : relT T s.2.1) {p f n : Nat} (hp : p < 6) (hn : 1 ≤ n) (hf : f + n ≤ 60) : MV MX12_bestOf (d, 0, 0, n0, κ) a h0 s 0 [some (.ref a), some (.int (nI p)), some (.int (nI f)), some (.int (nI n)), none, none, none] [] (mR s (.int (beF T (s.2.1 54) p f n 2 0 (-60)))) := by
  have hL : ∀ (j w : Nat) (x : Int32), w + j = 2 → beF T (s.2.1 54) p f n j w x = beF T (s.2.1 54) p f n 2 0 (-60) → MV MX12_bestOf (d, 0, 0, n0, κ) a h0 s 7 [some (.ref a), some (.int (nI p)), some (.int (nI f)), some (.int (nI n)), some (.int (x)), some (.int (nI w)), none] [] (mR s (.int (beF T (s.2.1 54) p f n 2 0 (-60)))) := by
    intro j
    induction j with
    | zero =>
      intro w x hj hb
      have hw : w = 2 := by omega
      subst hw
      rw [← hb]
      refine MV.iload dX12_bestOf_7 rfl ?_
      refine MV.iconst (v := 2) dX12_bestOf_9 (by decide) ?_
      refine MV.icmp_ge 56 dX12_bestOf_10 (by decide) (fun _ => ?_) (fun z => absurd (nI_le (a := 2) (b := 2) (by omega) (by omega)) z)
      refine MV.iload dX12_bestOf_56 rfl ?_
      refine MV.iret dX12_bestOf_58 rfl ?_
      exact ⟨rfl, rfl⟩
    | succ j ih =>
      intro w x hj hb
      refine MV.iload dX12_bestOf_7 rfl ?_
      refine MV.iconst (v := 2) dX12_bestOf_9 (by decide) ?_
      refine MV.icmp_ge 56 dX12_bestOf_10 (by decide) (fun z => absurd z (nI_ge (a := w) (b := 2) (by omega) (by omega))) (fun _ => ?_)
      refine MV.iconst (v := nI 1) dX12_bestOf_13 (by decide) ?_
      refine MV.istore dX12_bestOf_14 (by decide) rfl ?_
      refine MV.weak [some (.ref a), some (.int (nI p)), some (.int (nI f)), some (.int (nI n)), some (.int (x)), some (.int (nI w)), some (.int (nI 1))] (by simp [leL, sto1, sto2, k2c, nI_1]) (bestIn_M (by omega) hT hp hn hf (by omega) (if n < 2 then 1 else 2) 1 x (Nat.le_refl 1) (by omega) ?_)
      refine MV.iinc (v := 1) dX12_bestOf_50 rfl (by decide) (by decide) rfl ?_
      refine MV.goto 7 dX12_bestOf_53 (by decide) ?_
      exact MV.weak [some (.ref a), some (.int (nI p)), some (.int (nI f)), some (.int (nI n)), some (.int (bwF T (s.2.1 54) p f n w (if n < 2 then 1 else 2) 1 x)), some (.int (nI (w + 1))), none] (by simp [leL, sto1, sto2, k2c, nI_1]) (ih (w + 1) _ (by omega) hb)
  refine MV.bipush (v := (-60)) dX12_bestOf_0 (by decide) ?_
  refine MV.istore dX12_bestOf_2 (by decide) rfl ?_
  refine MV.iconst (v := nI 0) dX12_bestOf_4 (by decide) ?_
  refine MV.istore dX12_bestOf_5 (by decide) rfl ?_
  exact hL 2 0 (-60) (by omega) rfl
