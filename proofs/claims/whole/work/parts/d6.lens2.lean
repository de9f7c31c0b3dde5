/-! lengths, ask: the class's and the model's are the same -/
section Lens2
variable {T : Tx} {F : St}
theorem fit_iff (h : facO T F) {p L : Nat} : mFitF T F (nat (mLat F (mkn F))) 1 (begL T p L) = true ↔ ∀ i, i < mkn F → ctd F i = true → soE T F 63 true (begL T p L) (nat (F.2.1 3 i)) i := by
  have hl := h.1.2
  have hk := h.2.1
  obtain ⟨A, e1, e2, e3⟩ := h.mlat (mkn F) (Nat.le_refl _)
  rw [e1, show nat (nI A) = A from nI_clamp (by omega), mFit_iff]
  constructor
  · intro z i hi hc t ht6 ht
    have hA := e3 i hi hc
    rw [ht, show nat (nI (t + 1)) = t + 1 from nI_clamp (by omega)] at hA
    have := (mSo_iff _ _).mp (z t (by omega)) i hi
    rw [Nat.zero_add] at this
    exact Classical.byContradiction fun y => this ⟨hc, by rw [ht, Nat.add_comm], y⟩
  · intro z t ht
    rw [mSo_iff]
    intro i hi
    rw [Nat.zero_add]
    exact fun y => y.2.2 (z i hi y.1 t (by omega) (by rw [y.2.1, Nat.add_comm]))
theorem soE_eq (hw : wfT T) {q : Nat} {e e2 : St} {i : Nat} (hq : q < 6) (h : eqP q e e2) : soE T F ((1 : Int32) <<< (nI q &&& 31)) false e q i ↔ soE T F 63 true e2 q i := by
  unfold soE
  have g : ∀ t, cIsLeft (hoursS T (kW 0) ((1 : Int32) <<< (nI q &&& 31)) false (t + 1) e) q (F.2.1 4 i) = cIsLeft (hoursS T (kW 0) 63 true (t + 1) e2) q (F.2.1 4 i) := fun t => (eqP.hours hw hq (bitI q hq) (lit63 q hq) (t + 1) _ _ h).isL _
  constructor
  · intro z t h6 ht; rw [← g]; exact z t h6 ht
  · intro z t h6 ht; rw [g]; exact z t h6 ht
theorem begL_other {p q L : Nat} (hI : T.1.2.1 2 q = nI (nat (T.1.2.1 2 q))) (hq : ¬ q = p) : eqP q (begL T q (nat (T.1.2.1 2 q))) (begL T p L) := by
  refine ⟨rfl, rfl, ?_, ?_, ?_, ?_, rfl⟩
  · rw [begL_in, begL_in, if_pos rfl, if_neg hq, ← hI]
  · rw [begL_row (by decide) (by decide), begL_row (by decide) (by decide)]
  · rw [begL_row (by decide) (by decide), begL_row (by decide) (by decide)]
  · rw [begL_row (by decide) (by decide), begL_row (by decide) (by decide)]
theorem othB_iff {kn : Nat → Bool} {p : Nat} : ∀ (k i : Nat), othB kn p k i = true ↔ ∀ m, m < k → ¬ i + m = p → kn (i + m) = true := by
  intro k
  induction k with
  | zero => intro i; exact ⟨fun _ m hm => absurd hm (by omega), fun _ => rfl⟩
  | succ k ih =>
    intro i
    rw [othB]
    by_cases q : ¬ i = p ∧ kn i = false
    · rw [if_pos q]
      exact ⟨fun z => (by cases z), fun z => by have := z 0 (by omega) q.1; rw [Nat.add_zero, q.2] at this; cases this⟩
    · rw [if_neg q, ih]
      refine ⟨fun z m hm hp => ?_, fun z m hm hp => by have := z (m + 1) (by omega) (by omega); rwa [show i + (m + 1) = i + 1 + m by omega] at this⟩
      cases m with
      | zero =>
        rw [Nat.add_zero] at hp ⊢
        cases q3 : kn i with
        | true => rfl
        | false => exact absurd ⟨hp, q3⟩ q
      | succ m => have := z m (by omega) (by omega); rwa [show i + 1 + m = i + (m + 1) by omega] at this
theorem fit_split (h : facO T F) (hw : wfT T) (hI : ∀ q, q < nat (T.1.1 0) → T.1.2.1 2 q = nI (nat (T.1.2.1 2 q))) {p L : Nat} (hp : p < nat (T.1.1 0)) :
    mFitF T F (nat (mLat F (mkn F))) 1 (begL T p L) = true ↔ (othB (fun q => knA T F (cnA F) q (nat (T.1.2.1 2 q))) p (nat (T.1.1 0)) 0 = true ∧ knA T F (cnA F) p L = true) := by
  have hn := hw.1.2
  rw [fit_iff h, othB_iff, knA_iff h]
  constructor
  · intro z
    refine ⟨fun q hq hqp => ?_, fun i hi hc hm => ?_⟩
    · rw [Nat.zero_add] at hqp ⊢
      rw [knA_iff h]
      intro i hi hc hm
      have := z i hi hc
      rw [hm, show nat (nI q) = q from nI_clamp (by omega)] at this
      exact (soE_eq hw (by omega) (begL_other (hI q hq) hqp)).mpr this
    · have := z i hi hc
      rw [hm, show nat (nI p) = p from nI_clamp (by omega)] at this
      exact (soE_eq hw (by omega) eqP.rf).mpr this
  · rintro ⟨z1, z2⟩ i hi hc
    have hs := (h.seen hi hc).1
    have hs2 := hs.2
    by_cases hqp : nat (F.2.1 3 i) = p
    · rw [hqp]
      exact (soE_eq hw (by omega) eqP.rf).mp (z2 i hi hc (by rw [← hqp]; exact hs.1))
    · have := z1 (nat (F.2.1 3 i)) hs2 (by omega)
      rw [Nat.zero_add, knA_iff h] at this
      exact (soE_eq hw (by omega) (begL_other (hI _ hs2) hqp)).mp (this i hi hc hs.1)
theorem mLen_eq (h : facO T F) (hw : wfT T) (hI : ∀ q, q < nat (T.1.1 0) → T.1.2.1 2 q = nI (nat (T.1.2.1 2 q))) {p : Nat} (hp : p < nat (T.1.1 0)) : cLenA T F p = mLenA T F p := by
  unfold cLenA mLenA
  by_cases q : othB (fun q => knA T F (cnA F) q (nat (T.1.2.1 2 q))) p (nat (T.1.1 0)) 0 = true
  · rw [if_pos q]
    have g : ∀ L, lenB (fun L => knA T F (cnA F) p L) L = mLenF T F p (nat (mLat F (mkn F))) L := by
      intro L
      induction L with
      | zero => rfl
      | succ L ih =>
        rw [lenB, mLenF, ih]
        have e := fit_split h hw hI (L := L + 1) hp
        by_cases q2 : knA T F (cnA F) p (L + 1) = true
        · rw [if_pos q2, if_pos (e.mpr ⟨q, q2⟩)]
        · rw [if_neg q2, if_neg (fun z => q2 (e.mp z).2)]
    exact g 30
  · rw [if_neg q]
    have g : ∀ L, mLenF T F p (nat (mLat F (mkn F))) L = 0 := by
      intro L
      induction L with
      | zero => rfl
      | succ L ih => rw [mLenF, ih, if_neg (fun z => q ((fit_split h hw hI (L := L + 1) hp).mp z).1)]; rfl
    exact (g 30).symm
end Lens2
/-! bits of a row of thirty -/
theorem bitM_n : ∀ k, k < 31 → bitM k = nI (2 ^ k) := by decide +kernel
theorem or_bitM {m k : Nat} (hm : m < 2 ^ k) (hk : k < 31) : nI m ||| bitM k = nI (m + 2 ^ k) := by
  rw [bitM_n k hk, nx_or, or_add_bit (Nat.testBit_lt_two_pow hm)]
theorem mLenF_n {T : Tx} {F : St} {p lat : Nat} : ∀ L, L ≤ 30 → ∃ m, mLenF T F p lat L = nI m ∧ m < 2 ^ L := by
  intro L
  induction L with
  | zero => intro _; exact ⟨0, rfl, by decide⟩
  | succ L ih =>
    intro hL
    obtain ⟨m, e, hm⟩ := ih (by omega)
    rw [mLenF, e]
    by_cases q : mFitF T F lat 1 (begL T p (L + 1)) = true
    · rw [if_pos q, or_bitM hm (by omega)]
      exact ⟨m + 2 ^ L, rfl, by rw [Nat.pow_succ]; omega⟩
    · rw [if_neg q]
      exact ⟨m, Int32.or_zero, by rw [Nat.pow_succ]; omega⟩
theorem usI_N {n k : Nat} (hn : n < 2 ^ 32) (hk : k < 32) : usI (nI n) (nI k) = nI (n / 2 ^ k) := by
  unfold usI
  apply Int32.toBitVec_inj.mp
  apply BitVec.eq_of_toNat_eq
  have hc : ((nI k).toUInt32 &&& Int32.toUInt32 31) = UInt32.ofNat k := (show ∀ k, k < 32 → ((nI k).toUInt32 &&& Int32.toUInt32 31) = UInt32.ofNat k by decide +kernel) k hk
  rw [hc]
  show ((nI n).toUInt32 >>> UInt32.ofNat k).toNat = (BitVec.ofNat 32 _).toNat
  have h1 : (UInt32.ofNat k).toNat = k := by
    show (BitVec.ofNat 32 k).toNat = k
    rw [BitVec.toNat_ofNat, Nat.mod_eq_of_lt (by omega)]
  have h2 : (nI n).toUInt32.toNat = n := by
    show (BitVec.ofNat 32 n).toNat = n
    rw [BitVec.toNat_ofNat, Nat.mod_eq_of_lt hn]
  rw [UInt32.toNat_shiftRight, h1, h2, Nat.mod_eq_of_lt hk, Nat.shiftRight_eq_div_pow, BitVec.toNat_ofNat, Nat.mod_eq_of_lt (Nat.lt_of_le_of_lt (Nat.div_le_self _ _) hn)]
theorem pc_final4 {n : Nat} : ((pcW 4 n + pcW 4 n / 256) + (pcW 4 n + pcW 4 n / 256) / 65536) % 64 = pcS 4 n := by
  have hb : ∀ m, byT (m % 256) ≤ 8 := fun m => (by_c3 (m % 256) (by omega) 0 (by omega)).2.2.2
  simp only [pcW, pcS]
  have h0 := hb n
  have h1 := hb (n / 256)
  have h2 := hb (n / 256 / 256)
  have h3 := hb (n / 256 / 256 / 256)
  generalize byT (n % 256) = b0 at *
  generalize byT (n / 256 % 256) = b1 at *
  generalize byT (n / 256 / 256 % 256) = b2 at *
  generalize byT (n / 256 / 256 / 256 % 256) = b3 at *
  generalize hW : b0 + 256 * (b1 + 256 * (b2 + 256 * (b3 + 256 * 0))) = w
  have q1 : w / 256 = b1 + 256 * (b2 + 256 * b3) := by omega
  generalize hX : w + w / 256 = x
  have hX2 : x = (b0 + b1) + 256 * ((b1 + b2) + 256 * ((b2 + b3) + 256 * b3)) := by omega
  have q2 : x / 65536 = (b2 + b3) + 256 * b3 := by omega
  omega
theorem bcI_pc {n : Nat} (hn : n < 2 ^ 31) : bcI (nI n) = nI (pcS 4 n) := by
  have d2 : n / 2 < 2 ^ 31 := by omega
  have hm85 : (1431655765 : Int32) = nI (mk8 85 4) := by decide +kernel
  have hm51 : (858993459 : Int32) = nI (mk8 51 4) := by decide +kernel
  have hm15 : (252645135 : Int32) = nI (mk8 15 4) := by decide +kernel
  have e1 : bcI1 (nI n) = nI (pb1 4 n) := by
    unfold bcI1 pb1
    rw [show (1 : Int32) = nI 1 by decide, usI_N (by omega) (by omega), hm85, nx_and]
    have : n / 2 ^ 1 &&& mk8 85 4 ≤ n / 2 ^ 1 := Nat.and_le_left
    rw [nI_subI (by omega)]
  have l1 : pb1 4 n < 2 ^ 31 := by unfold pb1; omega
  have e2 : bcI2 (nI (pb1 4 n)) = nI (pb2 4 (pb1 4 n)) := by
    unfold bcI2 pb2
    rw [show (2 : Int32) = nI 2 by decide, usI_N (by omega) (by omega), hm51, nx_and, nx_and, nI_add]
  have hw := pb_w 4 n (by omega)
  have l2 : pb2 4 (pb1 4 n) < 2 ^ 31 := by
    have a1 : pb1 4 n &&& mk8 51 4 ≤ mk8 51 4 := Nat.and_le_right
    have a2 : pb1 4 n / 4 &&& mk8 51 4 ≤ mk8 51 4 := Nat.and_le_right
    have a3 : mk8 51 4 = 858993459 := by decide
    unfold pb2
    omega
  have e3 : bcI3 (nI (pb2 4 (pb1 4 n))) = nI (pcW 4 n) := by
    rw [← hw]
    unfold bcI3 pb3
    rw [show (4 : Int32) = nI 4 by decide, usI_N (by omega) (by omega), nI_add, hm15, nx_and]
  have l3 : pcW 4 n < 2 ^ 28 := by
    rw [← hw]
    have a1 : pb3 4 (pb2 4 (pb1 4 n)) ≤ mk8 15 4 := Nat.and_le_right
    have a3 : mk8 15 4 = 252645135 := by decide
    omega
  have hf := pc_final4 (n := n)
  generalize hW : pcW 4 n = w at *
  have e4 : bcI4 (nI w) = nI (w + w / 256) := by
    unfold bcI4
    rw [show (8 : Int32) = nI 8 by decide, usI_N (by omega) (by omega), nI_add]
  have e5 : bcI5 (nI (w + w / 256)) = nI ((w + w / 256) + (w + w / 256) / 65536) := by
    unfold bcI5
    rw [show (16 : Int32) = nI 16 by decide, usI_N (by omega) (by omega), nI_add]
  unfold bcI
  rw [e1, e2, e3, e4, e5, show (63 : Int32) = nI (2 ^ 6 - 1) by decide, nx_and, Nat.and_two_pow_sub_one_eq_mod]
  exact congrArg nI hf
theorem pc_cnt : ∀ (k n : Nat), k ≤ 32 → n < 2 ^ k → pcS 4 n = cntB (fun i => n.testBit i) k := by
  intro k
  induction k with
  | zero => intro n _ hn; rw [show n = 0 by omega]; decide
  | succ k ih =>
    intro n hk hn
    rw [cntB]
    by_cases q : n < 2 ^ k
    · rw [ih n (by omega) q, Nat.testBit_lt_two_pow q]
      rfl
    · obtain ⟨m, rfl⟩ : ∃ m, n = m + 2 ^ k := ⟨n - 2 ^ k, by omega⟩
      have hm : m < 2 ^ k := by rw [Nat.pow_succ] at hn; omega
      have ht := Nat.testBit_lt_two_pow hm
      rw [pcS_bit 4 m k (by omega) ht, ih m (by omega) hm, or_add_bit ht]
      have e1 : (m ||| 2 ^ k).testBit k = true := by rw [Nat.testBit_or, Nat.testBit_two_pow_self, Bool.or_true]
      have e2 : cntB (fun i => (m ||| 2 ^ k).testBit i) k = cntB (fun i => m.testBit i) k := cntB_congr k (fun j hj => by rw [Nat.testBit_or, Nat.testBit_two_pow_of_ne (by omega), Bool.or_false])
      rw [e2, e1]
      rfl
theorem bits_cnt {n : Nat} (hn : n < 2 ^ 31) : ∀ k, k ≤ 30 → bitsF (nI n) k = nI (cntB (fun i => n.testBit i) k) := by
  intro k
  induction k with
  | zero => intro _; rfl
  | succ k ih =>
    intro hk
    rw [bitsF, cntB, ih (by omega)]
    have h := bt_tst (x := nI n) (k := k) (by omega)
    rw [bt_nI (by omega)] at h
    cases q : n.testBit k with
    | false => rw [h.1.mpr q]; exact Int32.add_zero _
    | true => rw [h.2.mpr q]; exact nI_1 _
theorem bc30 {n : Nat} (hn : n < 2 ^ 30) : bcI (nI n) = bitsF (nI n) 30 := by
  rw [bcI_pc (by omega), bits_cnt (by omega) 30 (by omega), pc_cnt 30 n (by omega) hn]
section Ask2
variable {T : Tx} {F : St}
theorem burnP_1 {men unb nl : Int32} {w : Bool} : ∀ (k i : Nat) (c : St), (burnF T men unb nl w k i c).2.1 1 = c.2.1 1 := by
  have h : ∀ (i : Nat) (e : Int32) (c : St), (burnE T nl w i e c).2.1 1 = c.2.1 1 := fun i e c => by
    unfold burnE
    split
    · funext j; exact cShort_out.2.2 1 j (by omega)
    · rfl
  intro k
  induction k with
  | zero => intro i c; rfl
  | succ k ih =>
    intro i c
    rw [burnF, ih]
    unfold burnP
    split
    · rw [h, h]
    · rfl
theorem passS_r1 {k : Nat → Int32} {men : Int32} {look : Bool} {c : St} : (passS T k men look c).2.1 1 = c.2.1 1 := by
  have hl : ∀ (d : St) (m : Int32) (k i : Nat) (c : St), (lightsF d m k i c).2.1 1 = c.2.1 1 := by
    intro d m k
    induction k with
    | zero => intro i c; rfl
    | succ k ih =>
      intro i c
      rw [lightsF, ih]
      split
      · unfold cLightOrIdle cLight cIdle
        split
        · rfl
        · rfl
      · rfl
  have hb : ∀ (d : St) (m : Int32) (k i : Nat) (c : St), (blowsF d m k i c).2.1 1 = c.2.1 1 := by
    intro d m k
    induction k with
    | zero => intro i c; rfl
    | succ k ih =>
      intro i c
      rw [blowsF, ih]
      split
      · unfold cBlowOrIdle cBlow cIdle
        split
        · rfl
        · rfl
      · rfl
  have hs : ∀ (w : Bool) (l : Int32) (k i : Nat) (c : St), (shineF T w l k i c).2.1 1 = c.2.1 1 := by
    intro w l k
    induction k with
    | zero => intro i c; rfl
    | succ k ih =>
      intro i c
      rw [shineF, ih]
      have h1 : (seenS T l i c).2.1 1 = c.2.1 1 := by
        unfold seenS
        split
        · rfl
        · rfl
      unfold glowS
      split
      · exact h1
      · exact h1
  have hc : (cLB T men (k 3) c).2.1 1 = c.2.1 1 := by
    unfold cLB
    simp only
    split
    · rw [hb, hl]
    · rw [hl]
  have hk : (windK (k 1) T (cLB T men (k 3) c)).2.2.1 1 = c.2.1 1 := by
    unfold windK windN
    repeat' split
    all_goals exact hc
  unfold passS hourS
  simp only
  rw [burnP_1]
  split
  · rw [hs]; exact hk
  · exact hk
theorem hoursS_r1 {k : Nat → Int32} {men : Int32} {look : Bool} : ∀ (n : Nat) (c : St), (hoursS T k men look n c).2.1 1 = c.2.1 1 := by
  intro n
  induction n with
  | zero => intro c; rfl
  | succ n ih => intro c; rw [hoursS, ih, passS_r1]
theorem cnL_eq (hw : wfT T) {p : Nat} {S : Int32} (hp6 : p < 6) {x : Nat} : ∀ L, L ≤ 30 → cnL T p S L x = wsF S (ftF T p) (feF T p) (nI x) L := by
  intro L
  induction L with
  | zero => intro _; rfl
  | succ L ih =>
    intro hL
    rw [cnL, wsF, ih (by omega)]
    congr 1
    unfold wgF
    have e : lfB T p (L + 1) x = (decide (¬ nI x < ftF T p L) && decide (¬ feF T p L ≤ nI x)) := by
      unfold lfB
      rw [(eqP.hours (T := T) (k := kW 0) hw hp6 (bitI p hp6) (lit63 p hp6) (l2 := true) 20 _ _ eqP.rf).isL]
      unfold cIsLeft ftF feF
      rw [hoursS_r1, begL_in, if_pos rfl]
    rw [e]
    have a1 := and1_iff (S >>> (nI L &&& 31))
    by_cases q1 : ¬ (S >>> (nI L &&& 31)) &&& 1 = 0
    · by_cases q2 : ¬ nI x < ftF T p L
      · by_cases q3 : ¬ feF T p L ≤ nI x
        · rw [if_pos ⟨q1, by rw [decide_eq_true q2, decide_eq_true q3]; rfl⟩, if_pos ⟨a1.mpr q1, q2, q3⟩]
        · rw [if_neg (fun z => by rw [decide_eq_false q3, Bool.and_false] at z; exact absurd z.2 (by decide)), if_neg (fun z => q3 z.2.2)]
      · rw [if_neg (fun z => by rw [decide_eq_false q2, Bool.false_and] at z; exact absurd z.2 (by decide)), if_neg (fun z => q2 z.2.1)]
    · rw [if_neg (fun z => q1 z.1), if_neg (fun z => q1 (a1.mp z.1))]
theorem boF_congr {W V : Int32 → Int32} : ∀ n, (∀ x, x ≤ n → W (nI x) = V (nI x)) → boF W n = boF V n := by
  intro n
  induction n with
  | zero => intro _; rfl
  | succ n ih =>
    intro h
    have e := ih (fun x hx => h x (by omega))
    have := boF_le (W := V) n
    rw [boF, boF, e, h (n + 1) (by omega), h (boF V n) (by omega)]
theorem ask_eq (h : facO T F) (hw : wfT T) (hI : ∀ q, q < nat (T.1.1 0) → T.1.2.1 2 q = nI (nat (T.1.2.1 2 q))) {p : Nat} (hp : p < nat (T.1.1 0)) (y : Int32) : cAsk T F p y = (if y = 0 then nI (boF (woA T F p) 59) else woA T F p (nI (boF (woA T F p) 59))) := by
  have hn := hw.1.2
  have hp6 : p < 6 := by omega
  have e0 := mLen_eq h hw hI hp
  obtain ⟨m, em, hm⟩ := mLenF_n (T := T) (F := F) (p := p) (lat := nat (mLat F (mkn F))) 30 (by omega)
  have em2 : mLenA T F p = nI m := em
  have g : ∀ x, x < 60 → wcF T p (cLenA T F p) (bcI (cLenA T F p)) (nI x) = woA T F p (nI x) := fun x hx => by
    unfold wcF woA woF
    rw [show nat (nI x) = x from nI_clamp (by omega), cnL_eq hw hp6 30 (by omega), e0, em2, bc30 hm]
  have gb := boF_congr (W := wcF T p (cLenA T F p) (bcI (cLenA T F p))) (V := woA T F p) 59 (fun x hx => g x (by omega))
  have hb := boF_le (W := woA T F p) 59
  unfold cAsk
  rw [gb, g _ (by omega)]
end Ask2
