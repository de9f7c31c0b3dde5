/-! lengths: the class's and the model's are the same -/
theorem lit_bt {x : Int32} {k : Nat} (hk : k < 32) : litB x (nI k) = bt x k := by
  have h := bt_tst (x := x) hk
  unfold litB
  cases q : bt x k with
  | false => exact decide_eq_false (fun z => z (h.1.mpr q))
  | true => exact decide_eq_true (fun z => by rw [h.1.mp z] at q; cases q)
theorem oF_hi {f : Nat → Int32} : ∀ (k : Nat) (o : Nat → Bool) (i : Nat), (∀ j, j < k → f j = -1 ∨ okN (f j) j) → k ≤ i + 1 → oF f k o i = o i := by
  intro k
  induction k with
  | zero => intro o i _ _; rfl
  | succ k ih =>
    intro o i h hi
    rw [oF]
    by_cases q1 : o k = true
    · rw [if_pos q1]; exact ih o i (fun j hj => h j (by omega)) (by omega)
    · rw [if_neg q1]
      by_cases q2 : f k = -1
      · rw [if_pos q2]; exact ih o i (fun j hj => h j (by omega)) (by omega)
      · rw [if_neg q2, ih _ i (fun j hj => h j (by omega)) (by omega)]
        have h3 : okN (f k) k := (h k (by omega)).resolve_left q2
        have h4 := h3.2
        exact if_neg (by omega)
theorem cnt_bits {f : Nat → Int32} : ∀ (k : Nat) (st b : Int32) (o : Nat → Bool), k ≤ 24 → (∀ j, j < k → f j = -1 ∨ okN (f j) j) → (∀ j, j < 24 → bt st j = o j) → ∀ i, i < 32 → bt (cntF f k st b) i = (bt b i || (decide (i < k) && !(oF f k o i) && decide (f i = -1))) := by
  intro k
  induction k with
  | zero => intro st b o _ _ _ i _; rw [cntF]; simp
  | succ k ih =>
    intro st b o hk h hs i hi
    have h' : ∀ j, j < k → f j = -1 ∨ okN (f j) j := fun j hj => h j (by omega)
    have hl : litB st (nI k) = o k := by rw [lit_bt (by omega), hs k (by omega)]
    have hlt : ∀ (x : Bool), ¬ i = k → (decide (i < k + 1) && x) = (decide (i < k) && x) := fun x hx => by
      by_cases q : i < k
      · rw [decide_eq_true q, decide_eq_true (show i < k + 1 by omega)]
      · rw [decide_eq_false q, decide_eq_false (show ¬ i < k + 1 by omega)]
    rw [cntF, oF, hl]
    by_cases q1 : o k = true
    · rw [if_pos q1, if_pos q1, ih st b o (by omega) h' hs i hi]
      by_cases qi : i = k
      · subst qi
        rw [oF_hi i o i h' (by omega), q1]
        simp
      · rw [Bool.and_assoc, Bool.and_assoc, hlt _ qi]
    · rw [if_neg q1, if_neg q1]
      by_cases q2 : f k = -1
      · rw [if_pos q2, if_pos (by rw [q2]; decide), ih st _ o (by omega) h' hs i hi, bt_or, show bitM k = (1 : Int32) <<< (nI k &&& 31) from rfl, bt_1 k (by omega) i hi]
        by_cases qi : i = k
        · subst qi
          rw [oF_hi i o i h' (by omega), q2]
          cases q3 : o i
          · simp
          · exact absurd q3 q1
        · rw [decide_eq_false qi, Bool.or_false, Bool.and_assoc, Bool.and_assoc, hlt _ qi]
      · obtain ⟨e1, e2⟩ : okN (f k) k := (h k (by omega)).resolve_left q2
        have hnn : ¬ f k < 0 := by rw [e1]; exact nI_nlt0 _ (by omega)
        rw [if_neg q2, if_neg hnn, ih _ b (fun j => if j = nat (f k) then true else o j) (by omega) h' (fun j hj => by
          rw [bt_or, e1, bt_1 _ (by omega) j (by omega), hs j hj, ← e1]
          by_cases qj : j = nat (f k)
          · rw [if_pos qj, decide_eq_true qj, Bool.or_true]
          · rw [if_neg qj, decide_eq_false qj, Bool.or_false]) i hi]
        by_cases qi : i = k
        · subst qi
          rw [decide_eq_false q2, Bool.and_false, Bool.and_false]
        · rw [Bool.and_assoc, Bool.and_assoc, hlt _ qi]
/-- what is told of FACTS, without the model -/
def facO (T : Tx) (F : St) : Prop := okN (F.1 0) 25 ∧ mkn F ≤ nat (F.1 0) ∧ ∀ k, k < nat (F.1 0) → (F.2.1 6 k = -1 ∧ okN (F.2.1 3 k) (nat (T.1.1 0)) ∧ okN (F.2.1 4 k) 60 ∧ okN (F.2.1 2 k) 61 ∧ ∃ b, F.2.1 5 k = bI b) ∨ okN (F.2.1 6 k) k
theorem facR.O {T : Tx} {s F : St} (h : facR T s F) : facO T F := ⟨h.1, h.kn.2.1, h.2.2.2.2.2⟩
abbrev cnA (F : St) : Int32 := cntF (F.2.1 6) (mkn F) 0 0
section Lens
variable {T : Tx} {F : St}
theorem facO.cn (h : facO T F) {i : Nat} (hi : i < 32) : litB (cnA F) (nI i) = (decide (i < mkn F) && ctd F i) := by
  obtain ⟨h1, h2, h3⟩ := h
  have hl := h1.2
  rw [lit_bt hi, cnt_bits (mkn F) 0 0 (fun _ => false) (by omega) (fun j hj => (h3 j (by omega)).imp (fun z => z.1) id) (fun j _ => bt_0 j) i hi, bt_0, Bool.false_or, Bool.and_assoc]
  rfl
theorem facO.seen (h : facO T F) {i : Nat} (hi : i < mkn F) (hc : ctd F i = true) : okN (F.2.1 3 i) (nat (T.1.1 0)) ∧ okN (F.2.1 2 i) 61 ∧ ∃ b, F.2.1 5 i = bI b := by
  obtain ⟨h1, h2, h3⟩ := h
  have hq : F.2.1 6 i = -1 := by
    unfold ctd at hc
    rw [Bool.and_eq_true] at hc
    exact of_decide_eq_true hc.2
  rcases h3 i (by omega) with z | z
  · exact ⟨z.2.1, z.2.2.2.1, z.2.2.2.2⟩
  · rw [hq] at z
    have := h1.2
    exact absurd z.1 (by have h9 : ¬ (-1 : Int32) = nI (nat (-1)) := by decide
                         exact h9)
theorem cMax_n {a b : Nat} (ha : a < 1000) (hb : b < 1000) : cMax (nI a) (nI b) = nI (max a b) := by
  unfold cMax
  by_cases h : a < b
  · rw [if_pos (show nI a < nI b from (Int32.ofNat_lt_ofNat (by omega) (by omega)).mpr h), Nat.max_eq_right (by omega)]
  · rw [if_neg (show ¬ nI a < nI b from fun z => h ((Int32.ofNat_lt_ofNat (by omega) (by omega)).mp z)), Nat.max_eq_left (by omega)]
theorem facO.lat (h : facO T F) (m : Int32) : ∀ n, n ≤ 24 → ∃ L, latF F (cnA F) m n = nI L ∧ L ≤ 60 ∧ ∀ i, i < n → i < mkn F → ctd F i = true → F.2.1 3 i = m → nat (F.2.1 2 i) ≤ L := by
  intro n
  induction n with
  | zero => intro _; exact ⟨0, rfl, by omega, fun i hi => absurd hi (by omega)⟩
  | succ n ih =>
    intro hn
    obtain ⟨L, e1, e2, e3⟩ := ih (by omega)
    rw [latF, latS]
    by_cases q : litB (cnA F) (nI n) = true ∧ F.2.1 3 n = m
    · rw [if_pos q]
      have q1 := q.1
      rw [h.cn (by omega), Bool.and_eq_true] at q1
      have qm := of_decide_eq_true q1.1
      have hs := (h.seen qm q1.2).2.1
      have hs2 := hs.2
      refine ⟨max L (nat (F.2.1 2 n)), by rw [e1, hs.1, cMax_n (by omega) (by omega), ← hs.1], by omega, fun i hi h1 h2 h3 => ?_⟩
      by_cases hin : i = n
      · subst hin; omega
      · have := e3 i (by omega) h1 h2 h3; omega
    · rw [if_neg q]
      refine ⟨L, e1, e2, fun i hi h1 h2 h3 => ?_⟩
      by_cases hin : i = n
      · subst hin
        exact absurd ⟨by rw [h.cn (by omega), decide_eq_true h1, h2]; rfl, h3⟩ q
      · exact e3 i (by omega) h1 h2 h3
theorem facO.mlat (h : facO T F) : ∀ n, n ≤ mkn F → ∃ L, mLat F n = nI L ∧ L ≤ 60 ∧ ∀ i, i < n → ctd F i = true → nat (F.2.1 2 i) ≤ L := by
  intro n
  induction n with
  | zero => intro _; exact ⟨0, rfl, by omega, fun i hi => absurd hi (by omega)⟩
  | succ n ih =>
    intro hn
    obtain ⟨L, e1, e2, e3⟩ := ih (by omega)
    rw [mLat]
    by_cases q : ctd F n = true
    · rw [if_pos q]
      have hs := (h.seen (by omega) q).2.1
      have hs2 := hs.2
      refine ⟨max L (nat (F.2.1 2 n)), by rw [e1, hs.1, cMax_n (by omega) (by omega), ← hs.1], by omega, fun i hi h2 => ?_⟩
      by_cases hin : i = n
      · subst hin; omega
      · have := e3 i (by omega) h2; omega
    · rw [if_neg q]
      refine ⟨L, e1, e2, fun i hi h2 => ?_⟩
      by_cases hin : i = n
      · subst hin; exact absurd h2 q
      · exact e3 i (by omega) h2
theorem soF_iff {cn b : Int32} {p : Nat} {c : St} : ∀ (k i : Nat), soF F cn b p c k i = true ↔ ∀ m, m < k → soS F cn b p c (i + m) = false := by
  intro k
  induction k with
  | zero => intro i; exact ⟨fun _ m hm => absurd hm (by omega), fun _ => rfl⟩
  | succ k ih =>
    intro i
    rw [soF]
    by_cases q : soS F cn b p c i = true
    · rw [if_pos q]
      exact ⟨fun z => (by cases z), fun z => by have := z 0 (by omega); rw [Nat.add_zero, q] at this; cases this⟩
    · rw [if_neg q, ih]
      have q2 : soS F cn b p c i = false := Bool.eq_false_iff.mpr q
      refine ⟨fun z m hm => ?_, fun z m hm => by have := z (m + 1) (by omega); rwa [show i + (m + 1) = i + 1 + m by omega] at this⟩
      cases m with
      | zero => exact q2
      | succ m => have := z m (by omega); rwa [show i + 1 + m = i + (m + 1) by omega] at this
theorem knF_iff {cn : Int32} {p n : Nat} : ∀ (j h : Nat) (e : St), knF T F cn p n j h e = true ↔ ∀ t, t < j → soF F cn (nI (h + t)) p (hoursS T (kW 0) ((1 : Int32) <<< (nI p &&& 31)) false (t + 1) e) n 0 = true := by
  intro j
  induction j with
  | zero => intro h e; exact ⟨fun _ t ht => absurd ht (by omega), fun _ => rfl⟩
  | succ j ih =>
    intro h e
    rw [knF]
    by_cases q : soF F cn (nI h) p (passS T (kW 0) ((1 : Int32) <<< (nI p &&& 31)) false e) n 0 = true
    · rw [if_pos q, ih]
      refine ⟨fun z t ht => ?_, fun z t ht => by have := z (t + 1) (by omega); rwa [show h + (t + 1) = h + 1 + t by omega] at this⟩
      cases t with
      | zero => exact q
      | succ t => have := z t (by omega); rwa [show h + 1 + t = h + (t + 1) by omega] at this
    · rw [if_neg q]
      exact ⟨fun z => (by cases z), fun z => absurd (z 0 (by omega)) q⟩
theorem mSo_iff {c : St} {h : Int32} : ∀ (k i : Nat), mSoF F c h k i = true ↔ ∀ m, m < k → ¬ (ctd F (i + m) = true ∧ F.2.1 2 (i + m) = h ∧ ¬ bI (cIsLeft c (nat (F.2.1 3 (i + m))) (F.2.1 4 (i + m))) = F.2.1 5 (i + m)) := by
  intro k
  induction k with
  | zero => intro i; exact ⟨fun _ m hm => absurd hm (by omega), fun _ => rfl⟩
  | succ k ih =>
    intro i
    rw [mSoF]
    by_cases q : ctd F i = true ∧ F.2.1 2 i = h ∧ ¬ bI (cIsLeft c (nat (F.2.1 3 i)) (F.2.1 4 i)) = F.2.1 5 i
    · rw [if_pos q]
      exact ⟨fun z => (by cases z), fun z => absurd q (z 0 (by omega))⟩
    · rw [if_neg q, ih]
      refine ⟨fun z m hm => ?_, fun z m hm => by have := z (m + 1) (by omega); rwa [show i + (m + 1) = i + 1 + m by omega] at this⟩
      cases m with
      | zero => exact q
      | succ m => have := z m (by omega); rwa [show i + 1 + m = i + (m + 1) by omega] at this
theorem mFit_iff : ∀ (k h : Nat) (c : St), mFitF T F k h c = true ↔ ∀ t, t < k → mSoF F (hoursS T (kW 0) 63 true (t + 1) c) (nI (h + t)) (mkn F) 0 = true := by
  intro k
  induction k with
  | zero => intro h c; exact ⟨fun _ t ht => absurd ht (by omega), fun _ => rfl⟩
  | succ k ih =>
    intro h c
    rw [mFitF]
    by_cases q : mSoF F (passS T (kW 0) 63 true c) (nI h) (mkn F) 0 = true
    · rw [if_pos q, ih]
      refine ⟨fun z t ht => ?_, fun z t ht => by have := z (t + 1) (by omega); rwa [show h + (t + 1) = h + 1 + t by omega] at this⟩
      cases t with
      | zero => exact q
      | succ t => have := z t (by omega); rwa [show h + 1 + t = h + (t + 1) by omega] at this
    · rw [if_neg q]
      exact ⟨fun z => (by cases z), fun z => absurd (z 0 (by omega)) q⟩
/-- a FACT is so -/
def soE (T : Tx) (F : St) (m : Int32) (l : Bool) (e : St) (q i : Nat) : Prop := ∀ t, t < 60 → F.2.1 2 i = nI (t + 1) → bI (cIsLeft (hoursS T (kW 0) m l (t + 1) e) q (F.2.1 4 i)) = F.2.1 5 i
theorem knA_iff (h : facO T F) {p L : Nat} : knA T F (cnA F) p L = true ↔ ∀ i, i < mkn F → ctd F i = true → F.2.1 3 i = nI p → soE T F ((1 : Int32) <<< (nI p &&& 31)) false (begL T p L) p i := by
  have hl := h.1.2
  have hk := h.2.1
  obtain ⟨A, e1, e2, e3⟩ := h.lat (nI p) (nat (F.1 0)) (by omega)
  unfold knA
  rw [e1, show nat (nI A) = A from nI_clamp (by omega), knF_iff]
  constructor
  · intro z i hi hc hp t ht6 ht
    have hs := h.seen hi hc
    have hA := e3 i (by omega) hi hc hp
    rw [ht, show nat (nI (t + 1)) = t + 1 from nI_clamp (by omega)] at hA
    have := (soF_iff _ _).mp (z t (by omega)) i (by omega)
    rw [Nat.zero_add] at this
    unfold soS at this
    rw [h.cn (by omega), decide_eq_true hi, hc, decide_eq_true hp, ht, Nat.add_comm 1 t, decide_eq_true rfl] at this
    simp only [Bool.and_self, Bool.true_and, decide_eq_false_iff_not, Classical.not_not] at this
    obtain ⟨b, hb⟩ := hs.2.2
    rw [this, hb]
    cases b <;> rfl
  · intro z t ht
    rw [soF_iff]
    intro i hi
    rw [Nat.zero_add]
    unfold soS
    by_cases q1 : i < mkn F ∧ ctd F i = true
    · by_cases q2 : F.2.1 3 i = nI p
      · by_cases q3 : F.2.1 2 i = nI (1 + t)
        · have := z i q1.1 q1.2 q2 t (by omega) (by rw [q3, Nat.add_comm])
          obtain ⟨b, hb⟩ := (h.seen q1.1 q1.2).2.2
          rw [this, hb, decide_eq_false (p := ¬ bI b = if bI b = 1 then 1 else 0) (fun y => y (by cases b <;> rfl)), Bool.and_false]
        · rw [decide_eq_false q3, Bool.and_false, Bool.false_and]
      · rw [decide_eq_false q2, Bool.and_false, Bool.false_and, Bool.false_and]
    · rw [h.cn (by omega)]
      have : (decide (i < mkn F) && ctd F i) = false := by
        rw [Bool.and_eq_false_iff]
        by_cases q : i < mkn F
        · exact Or.inr (Bool.eq_false_iff.mpr (fun y => q1 ⟨q, y⟩))
        · exact Or.inl (decide_eq_false q)
      rw [this, Bool.false_and, Bool.false_and, Bool.false_and]
end Lens
