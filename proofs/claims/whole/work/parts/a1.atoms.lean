/-! numeral, fresh, manAtHand, manAhead, isFull of the model -/
/-- the TOKEN at hand, no FAULT so far -/
def tkS (b : Nat → Int32) (n : Nat) (s : St) (q : Tk) : Prop := kRel s q ∧ q.1 ≤ n ∧ s.1 22 = nI n ∧ s.2.1 1 = b ∧ s.1 27 = 0 ∧ s.1 28 = -1
theorem tkS.tok {b : Nat → Int32} {n : Nat} {s s2 : St} {q : Tk} (h : tkS b n s q) (k : frK2 s s2) (r : kRel s2 (tokN b n q)) : tkS b n s2 (tokN b n q) := by
  obtain ⟨h1, h2, h3, h4, h5, h6⟩ := h
  exact ⟨r, tokN_le h2, (k.2 22 (by decide) (by decide) (by decide) (by decide)).trans h3, by rw [k.1]; exact h4, (k.2 27 (by decide) (by decide) (by decide) (by decide)).trans h5, (k.2 28 (by decide) (by decide) (by decide) (by decide)).trans h6⟩
theorem tkS.token {d n0 a : Nat} {κ : Kd} {h0 : Hp} {b : Nat → Int32} {n : Nat} {s : St} {q : Tk} (h : tkS b n s q) (hd : 7 ≤ d) (hn : n ≤ 700) (hbb : ∀ k, k < n → ¬ b k = -1 ∧ b k < 256) : MV MX12_token (d, 0, 0, n0, κ) a h0 s 0 [some (.ref a), none] [] (fun v s' => v = none ∧ frK2 s s' ∧ tkS b n s' (tokN b n q)) := by
  refine MV.post (fun v s' z => ⟨z.1, z.2.1, h.tok z.2.1 (by have := z.2.2; rwa [h.2.2.2.1] at this)⟩) (tok_M hd h.2.2.1 h.1.1 hn h.2.1 (by rw [h.2.2.2.1]; exact hbb))
/-- calls change the TOKEN and the FAULT alone -/
def frK3 (s s' : St) : Prop := s'.2 = s.2 ∧ ∀ j, j ≠ 23 → j ≠ 24 → j ≠ 25 → j ≠ 26 → j ≠ 27 → j ≠ 28 → s'.1 j = s.1 j
theorem frK3.rf {s : St} : frK3 s s := ⟨rfl, fun _ _ _ _ _ _ _ => rfl⟩
theorem frK3.of {s s' : St} (h : frK2 s s') : frK3 s s' := ⟨h.1, fun j a b c e _ _ => h.2 j a b c e⟩
theorem frK3.tr {s s1 s2 : St} (h : frK3 s s1) (k : frK3 s1 s2) : frK3 s s2 := ⟨k.1.trans h.1, fun j a b c e f g => (k.2 j a b c e f g).trans (h.2 j a b c e f g)⟩
def wS (s : St) (c : Int32) : St := mI (mI s 27 c) 28 (s.1 24)
theorem frK3.w {s s1 : St} {c : Int32} (h : frK3 s s1) : frK3 s (wS s1 c) := h.tr ⟨rfl, fun j _ _ _ _ f g => (upd_ne g).trans (upd_ne f)⟩
def FAILS (R : Bool × PS) (s : St) : Prop := R.1 = false ∧ ¬ R.2.2.2.1 = 0 ∧ s.1 27 = R.2.2.2.1 ∧ s.1 28 = R.2.2.2.2.1
theorem FAILS.ne {R : Bool × PS} {s : St} (h : FAILS R s) : ¬ s.1 27 = 0 := by rw [h.2.2.1]; exact h.2.1
theorem FAILS.w {R : Bool × PS} {S : PS} {s : St} {c : Int32} (h : R = (false, failP c S)) (hc : ¬ c = 0) (hk : kRel s S.1) : FAILS R (wS s c) := by
  subst h
  exact ⟨rfl, hc, rfl, hk.2.1⟩
def numOk (q : Tk) (lo hi : Int32) : Prop := q.2.1 = -3 ∧ ¬ q.2.2.2 < lo ∧ q.2.2.2 ≤ hi
theorem numP_ok {S : PS} {lo hi : Int32} (h : numOk S.1 lo hi) : numP lo hi S = (true, S) := by
  unfold numP
  rw [if_pos h.1, if_neg h.2.1, if_pos h.2.2]
theorem numP_no {S : PS} {lo hi : Int32} (h : ¬ numOk S.1 lo hi) : numP lo hi S = (false, failP (if S.1.2.1 = -3 then 2 else 1) S) := by
  unfold numP
  by_cases h1 : S.1.2.1 = -3
  · rw [if_pos h1, if_pos h1]
    by_cases h2 : S.1.2.2.2 < lo
    · rw [if_pos h2]
    · rw [if_neg h2, if_neg (fun z => h ⟨h1, h2, z⟩)]
  · rw [if_neg h1, if_neg h1]
theorem num_cmp {vl v : Int32} {l : Nat} (h : numR vl v) (hl : l ≤ 99999) : (v < nI l ↔ vl < nI l) ∧ (v ≤ nI l ↔ vl ≤ nI l) ∧ (vl ≤ nI l → v = vl) := by
  obtain ⟨x, y, h1, h2, h3, h4, h5⟩ := h
  rw [h1, h2, nI_ltI (by omega) (by omega), nI_ltI (by omega) (by omega), nI_leI (by omega) (by omega), nI_leI (by omega) (by omega)]
  exact ⟨by omega, by omega, fun z => by congr 1; omega⟩
set_option maxRecDepth 100000 in
set_option maxHeartbeats 1000000 in
theorem numeral1_M {d n0 a : Nat} {κ : Kd} {h0 : Hp} (hd : 1 ≤ d) {s : St} {lo hi : Int32} (hf : ¬ s.1 27 = 0) : MV MX12_numeral (d, 0, 0, n0, κ) a h0 s 0 [some (.ref a), some (.int (lo)), some (.int (hi)), none] [] (fun v s' => v = some (.int lo) ∧ s' = s) := by
  refine MV.aload_n dX12_numeral_0 rfl ?_
  refine MV.getf 27 fl_X12_202 dX12_numeral_1 (by decide) rfl ?_
  refine MV.if_eq 9 dX12_numeral_4 (by decide) (fun z => absurd z (hf)) (fun _ => ?_)
  refine MV.iload_n dX12_numeral_7 rfl ?_
  refine MV.iret dX12_numeral_8 rfl ?_
  exact ⟨rfl, rfl⟩
set_option maxRecDepth 100000 in
set_option maxHeartbeats 1000000 in
theorem numeral0_M {d n0 a : Nat} {κ : Kd} {h0 : Hp} (hd : 8 ≤ d) {s : St} {b : Nat → Int32} {n : Nat} {q : Tk} (hn : n ≤ 700) (hbb : ∀ k, k < n → ¬ b k = -1 ∧ b k < 256) (h : tkS b n s q) {l u : Nat} (hl : l ≤ 99999) (hu : u ≤ 99999) (hok : numOk q (nI l) (nI u)) : MV MX12_numeral (d, 0, 0, n0, κ) a h0 s 0 [some (.ref a), some (.int (nI l)), some (.int (nI u)), none] [] (fun v s' => v = some (.int q.2.2.2) ∧ frK2 s s' ∧ tkS b n s' (tokN b n q)) := by
  have hs2 : s.1 25 = 2 := (kR_num h.1.2.2).mpr hok.1
  have hnr := kR_numV h.1.2.2 hok.1
  obtain ⟨c1, -, -⟩ := num_cmp hnr hl
  obtain ⟨-, c2, c3⟩ := num_cmp hnr hu
  refine MV.aload_n dX12_numeral_0 rfl ?_
  refine MV.getf 27 fl_X12_202 dX12_numeral_1 (by decide) rfl ?_
  refine MV.if_eq 9 dX12_numeral_4 (by decide) (fun _ => ?_) (fun z => absurd (h.2.2.2.2.1) z)
  refine MV.aload_n dX12_numeral_9 rfl ?_
  refine MV.getf 25 fl_X12_167 dX12_numeral_10 (by decide) rfl ?_
  refine MV.iconst (v := 2) dX12_numeral_13 (by decide) ?_
  refine MV.icmp_eq 25 dX12_numeral_14 (by decide) (fun _ => ?_) (fun z => absurd (hs2) z)
  refine MV.aload_n dX12_numeral_25 rfl ?_
  refine MV.getf 26 fl_X12_177 dX12_numeral_26 (by decide) rfl ?_
  refine MV.iload_n dX12_numeral_29 rfl ?_
  refine MV.icmp_lt 41 dX12_numeral_30 (by decide) (fun z => absurd z (fun z => hok.2.1 (c1.mp z))) (fun _ => ?_)
  refine MV.aload_n dX12_numeral_33 rfl ?_
  refine MV.getf 26 fl_X12_177 dX12_numeral_34 (by decide) rfl ?_
  refine MV.iload_n dX12_numeral_37 rfl ?_
  refine MV.icmp_le 46 dX12_numeral_38 (by decide) (fun _ => ?_) (fun z => absurd (c2.mpr hok.2.2) z)
  refine MV.aload_n dX12_numeral_46 rfl ?_
  refine MV.getf 27 fl_X12_202 dX12_numeral_47 (by decide) rfl ?_
  refine MV.if_eq 55 dX12_numeral_50 (by decide) (fun _ => ?_) (fun z => absurd (h.2.2.2.2.1) z)
  refine MV.aload_n dX12_numeral_55 rfl ?_
  refine MV.getf 26 fl_X12_177 dX12_numeral_56 (by decide) rfl ?_
  refine MV.istore_n dX12_numeral_59 (by decide) rfl ?_
  refine MV.aload_n dX12_numeral_60 rfl ?_
  refine MV.cV0 yoX12_token ml_X12_208 im_X12_token se_X12_token dX12_numeral_61 rfl (Nat.le_of_ble_eq_true rfl) (by omega) rfl (Nat.le_of_ble_eq_true rfl) (h.token (by omega) hn hbb) ?_
  rintro _ s2 ⟨rfl, h1, h2⟩
  refine MV.iload_n dX12_numeral_64 rfl ?_
  refine MV.iret dX12_numeral_65 rfl ?_
  exact ⟨by rw [c3 hok.2.2], h1, h2⟩
set_option maxRecDepth 100000 in
set_option maxHeartbeats 1000000 in
theorem numeralF_M {d n0 a : Nat} {κ : Kd} {h0 : Hp} (hd : 2 ≤ d) {s : St} {b : Nat → Int32} {n : Nat} {q : Tk} (h : tkS b n s q) {l u : Nat} (hl : l ≤ 99999) (hu : u ≤ 99999) (hok : ¬ numOk q (nI l) (nI u)) : MV MX12_numeral (d, 0, 0, n0, κ) a h0 s 0 [some (.ref a), some (.int (nI l)), some (.int (nI u)), none] [] (fun v s' => v = some (.int (nI l)) ∧ s' = wS s (if q.2.1 = -3 then 2 else 1)) := by
  by_cases h3 : q.2.1 = -3
  · skip
    rw [if_pos h3]
    have hs2 : s.1 25 = 2 := (kR_num h.1.2.2).mpr h3
    have hnr := kR_numV h.1.2.2 h3
    obtain ⟨c1, -, -⟩ := num_cmp hnr hl
    obtain ⟨-, c2, c3⟩ := num_cmp hnr hu
    have hw : ¬ (wS s 2).1 27 = 0 := show ¬ (2 : Int32) = 0 by decide
    refine MV.aload_n dX12_numeral_0 rfl ?_
    refine MV.getf 27 fl_X12_202 dX12_numeral_1 (by decide) rfl ?_
    refine MV.if_eq 9 dX12_numeral_4 (by decide) (fun _ => ?_) (fun z => absurd (h.2.2.2.2.1) z)
    refine MV.aload_n dX12_numeral_9 rfl ?_
    refine MV.getf 25 fl_X12_167 dX12_numeral_10 (by decide) rfl ?_
    refine MV.iconst (v := 2) dX12_numeral_13 (by decide) ?_
    refine MV.icmp_eq 25 dX12_numeral_14 (by decide) (fun _ => ?_) (fun z => absurd (hs2) z)
    refine MV.aload_n dX12_numeral_25 rfl ?_
    refine MV.getf 26 fl_X12_177 dX12_numeral_26 (by decide) rfl ?_
    refine MV.iload_n dX12_numeral_29 rfl ?_
    refine MV.icmp_lt 41 dX12_numeral_30 (by decide) (fun c30 => ?_) (fun c30 => ?_)
    · skip
      refine MV.aload_n dX12_numeral_41 rfl ?_
      refine MV.iconst (v := 2) dX12_numeral_42 (by decide) ?_
      refine MV.cV1 yoX12_wrong ml_X12_211 im_X12_wrong se_X12_wrong dX12_numeral_43 rfl (Nat.le_of_ble_eq_true rfl) (by omega) rfl (Nat.le_of_ble_eq_true rfl) (wrong0_M (by omega) h.2.2.2.2.1) ?_
      rintro _ _ ⟨rfl, rfl⟩
      refine MV.aload_n dX12_numeral_46 rfl ?_
      refine MV.getf 27 fl_X12_202 dX12_numeral_47 (by decide) rfl ?_
      refine MV.if_eq 55 dX12_numeral_50 (by decide) (fun z => absurd z (hw)) (fun _ => ?_)
      refine MV.iload_n dX12_numeral_53 rfl ?_
      refine MV.iret dX12_numeral_54 rfl ?_
      exact ⟨rfl, rfl⟩
    · skip
      refine MV.aload_n dX12_numeral_33 rfl ?_
      refine MV.getf 26 fl_X12_177 dX12_numeral_34 (by decide) rfl ?_
      refine MV.iload_n dX12_numeral_37 rfl ?_
      refine MV.icmp_le 46 dX12_numeral_38 (by decide) (fun z => absurd z (fun z => hok ⟨h3, fun y => c30 (c1.mpr y), c2.mp z⟩)) (fun _ => ?_)
      refine MV.aload_n dX12_numeral_41 rfl ?_
      refine MV.iconst (v := 2) dX12_numeral_42 (by decide) ?_
      refine MV.cV1 yoX12_wrong ml_X12_211 im_X12_wrong se_X12_wrong dX12_numeral_43 rfl (Nat.le_of_ble_eq_true rfl) (by omega) rfl (Nat.le_of_ble_eq_true rfl) (wrong0_M (by omega) h.2.2.2.2.1) ?_
      rintro _ _ ⟨rfl, rfl⟩
      refine MV.aload_n dX12_numeral_46 rfl ?_
      refine MV.getf 27 fl_X12_202 dX12_numeral_47 (by decide) rfl ?_
      refine MV.if_eq 55 dX12_numeral_50 (by decide) (fun z => absurd z (hw)) (fun _ => ?_)
      refine MV.iload_n dX12_numeral_53 rfl ?_
      refine MV.iret dX12_numeral_54 rfl ?_
      exact ⟨rfl, rfl⟩
  · skip
    rw [if_neg h3]
    have hs2 : ¬ s.1 25 = 2 := fun z => h3 ((kR_num h.1.2.2).mp z)
    have hw : ¬ (wS s 1).1 27 = 0 := show ¬ (1 : Int32) = 0 by decide
    refine MV.aload_n dX12_numeral_0 rfl ?_
    refine MV.getf 27 fl_X12_202 dX12_numeral_1 (by decide) rfl ?_
    refine MV.if_eq 9 dX12_numeral_4 (by decide) (fun _ => ?_) (fun z => absurd (h.2.2.2.2.1) z)
    refine MV.aload_n dX12_numeral_9 rfl ?_
    refine MV.getf 25 fl_X12_167 dX12_numeral_10 (by decide) rfl ?_
    refine MV.iconst (v := 2) dX12_numeral_13 (by decide) ?_
    refine MV.icmp_eq 25 dX12_numeral_14 (by decide) (fun z => absurd z (hs2)) (fun _ => ?_)
    refine MV.aload_n dX12_numeral_17 rfl ?_
    refine MV.iconst (v := 1) dX12_numeral_18 (by decide) ?_
    refine MV.cV1 yoX12_wrong ml_X12_211 im_X12_wrong se_X12_wrong dX12_numeral_19 rfl (Nat.le_of_ble_eq_true rfl) (by omega) rfl (Nat.le_of_ble_eq_true rfl) (wrong0_M (by omega) h.2.2.2.2.1) ?_
    rintro _ _ ⟨rfl, rfl⟩
    refine MV.goto 46 dX12_numeral_22 (by decide) ?_
    refine MV.aload_n dX12_numeral_46 rfl ?_
    refine MV.getf 27 fl_X12_202 dX12_numeral_47 (by decide) rfl ?_
    refine MV.if_eq 55 dX12_numeral_50 (by decide) (fun z => absurd z (hw)) (fun _ => ?_)
    refine MV.iload_n dX12_numeral_53 rfl ?_
    refine MV.iret dX12_numeral_54 rfl ?_
    exact ⟨rfl, rfl⟩
theorem numeralD_M {d n0 a : Nat} {κ : Kd} {h0 : Hp} (hd : 8 ≤ d) {s : St} {b : Nat → Int32} {n : Nat} (hn : n ≤ 700) (hbb : ∀ k, k < n → ¬ b k = -1 ∧ b k < 256) {R : Bool × PS} {S : PS} {k : PS → Bool × PS} {l u : Nat} (hl : l ≤ 99999) (hu : u ≤ 99999) (h : FAILS R s ∨ (R = bindP (numP (nI l) (nI u) S) k ∧ tkS b n s S.1)) : MV MX12_numeral (d, 0, 0, n0, κ) a h0 s 0 [some (.ref a), some (.int (nI l)), some (.int (nI u)), none] [] (fun v s' => ∃ r, v = some (.int r) ∧ frK3 s s' ∧ (FAILS R s' ∨ (R = k S ∧ r = S.1.2.2.2 ∧ numOk S.1 (nI l) (nI u) ∧ tkS b n s' (tokN b n S.1)))) := by
  rcases h with h | ⟨h, ht⟩
  · exact MV.post (fun v s' z => ⟨_, z.1, by rw [z.2]; exact frK3.rf, Or.inl (by rw [z.2]; exact h)⟩) (numeral1_M (by omega) h.ne)
  · by_cases hok : numOk S.1 (nI l) (nI u)
    · exact MV.post (fun v s' z => ⟨_, z.1, frK3.of z.2.1, Or.inr ⟨by rw [h, numP_ok hok]; rfl, rfl, hok, z.2.2⟩⟩) (numeral0_M hd hn hbb ht hl hu hok)
    · refine MV.post (fun v s' z => ⟨_, z.1, by rw [z.2]; exact frK3.rf.w, Or.inl ?_⟩) (numeralF_M (by omega) ht hl hu hok)
      rw [z.2]
      exact FAILS.w (by rw [h, numP_no hok]; rfl) (by split <;> decide) ht.1
theorem findF_ext {f g : Nat → Int32} {x : Int32} : ∀ k i, (∀ j, i ≤ j → j < i + k → f j = g j) → findF f x k i = findF g x k i := by
  intro k
  induction k with
  | zero => intro i _; rfl
  | succ k ih =>
    intro i h
    rw [findF, findF, h i (by omega) (by omega), ih (i + 1) (fun j a c => h j (by omega) (by omega))]
theorem findF_m1 {f : Nat → Int32} {x : Int32} : ∀ k i, i + k ≤ 100 → (findF f x k i < 0 ↔ findF f x k i = -1) := by
  intro k
  induction k with
  | zero => intro i _; exact ⟨fun _ => rfl, fun _ => by show (-1 : Int32) < 0; decide⟩
  | succ k ih =>
    intro i h
    unfold findF
    by_cases z : f i = x
    · rw [if_pos z]; exact ⟨fun y => absurd y (nI_nlt0 i), fun y => absurd y (nI_m1 (by omega))⟩
    · rw [if_neg z]; exact ih (i + 1) (by omega)
set_option maxRecDepth 100000 in
set_option maxHeartbeats 1000000 in
theorem found2_V {d n0 : Nat} {κ : Kd} (hd : 1 ≤ d) {h : Hp} {b N n g : Nat} {f : Nat → Int32} {x R : Int32} (ha : h b = some (.inl (0, N, .inl f))) (hn : g + n ≤ N) (hN : N < 2147483648) (hR : findF (fun i => f (g + i)) x n 0 = R) : V MX12_found (d, 0, 0, n0, κ) 0 0 h 0 [some (.ref b), some (.int (nI g)), some (.int (nI n)), some (.int x), none] [] (Rd h (.int R)) := by
  refine V.iconst (v := nI 0) dX12_found_0 (by decide) ?_
  refine V.istore dX12_found_1 (by decide) rfl ?_
  suffices hL : ∀ (k i : Nat), i + k = n → findF (fun i => f (g + i)) x k i = R → V MX12_found (d, 0, 0, n0, κ) 0 0 h 3 [some (.ref b), some (.int (nI g)), some (.int (nI n)), some (.int x), some (.int (nI i))] [] (Rd h (.int R)) from hL n 0 (by omega) hR
  intro k
  induction k with
  | zero =>
    intro i hik hv
    refine V.iload dX12_found_3 rfl ?_
    refine V.iload_n dX12_found_5 rfl ?_
    refine V.icmp_ge 28 dX12_found_6 (by decide) (fun _ => ?_) (fun z => absurd (nI_le (by omega) (by omega)) z)
    refine V.iconst (v := (-1)) dX12_found_28 (by decide) ?_
    refine V.iret dX12_found_29 rfl ?_
    exact ⟨by rw [← hv]; rfl, rfl⟩
  | succ k ih =>
    intro i hik hv
    refine V.iload dX12_found_3 rfl ?_
    refine V.iload_n dX12_found_5 rfl ?_
    refine V.icmp_ge 28 dX12_found_6 (by decide) (fun z => absurd z (nI_ge (by omega) (by omega))) (fun _ => ?_)
    refine V.aload_n dX12_found_9 rfl ?_
    refine V.iload_n dX12_found_10 rfl ?_
    refine V.iload dX12_found_11 rfl ?_
    refine V.iadd dX12_found_13 ?_
    refine V.ialdN dX12_found_14 ha (nI_add g i) (by omega) (by omega) ?_
    refine V.iload_n dX12_found_15 rfl ?_
    refine V.icmp_ne 22 dX12_found_16 (by decide) (fun c => ?_) (fun c => ?_)
    · refine V.iinc (v := 1) dX12_found_22 rfl (by decide) (by decide) rfl ?_
      refine V.goto 3 dX12_found_25 (by decide) ?_
      refine V.weak [some (.ref b), some (.int (nI g)), some (.int (nI n)), some (.int x), some (.int (nI (i + 1)))] (by simp [leL, sto1, sto2, k2c, nI_1]) ?_
      exact ih (i + 1) (by omega) (by rw [← hv, findF, if_neg c])
    · refine V.iload dX12_found_19 rfl ?_
      refine V.iret dX12_found_21 rfl ?_
      exact ⟨by rw [← hv, findF, if_pos c], rfl⟩
/-- PEOPLE told so far -/
def nmR (T : Tx) (s : St) (P : Nat) : Prop := P ≤ 6 ∧ s.2.1 3 8 = nI P ∧ T.1.1 0 = nI P ∧ ∀ p, p < P → T.1.2.1 1 p = s.2.1 4 (6 + p)
theorem findP_nm {S : PS} {s : St} {P : Nat} (h : nmR S.2.1 s P) : findP S = findF (fun i => s.2.1 4 (6 + i)) S.1.2.2.2 P 0 := by
  unfold findP
  rw [h.2.2.1, nat_nI (by have := h.1; omega)]
  exact findF_ext P 0 (fun j _ hj => h.2.2.2 j (by omega))
set_option maxRecDepth 100000 in
set_option maxHeartbeats 1000000 in
theorem fresh1_M {d n0 a : Nat} {κ : Kd} {h0 : Hp} (hd : 1 ≤ d) {s : St} {z : Nat} {x y : Int32} (hf : ¬ s.1 27 = 0) : MV MX12_fresh (d, 0, 0, n0, κ) a h0 s 0 [some (.ref a), some (.ref z), some (.int (x)), some (.int (y)), none] [] (fun v s' => v = some (.int 0) ∧ s' = s) := by
  refine MV.aload_n dX12_fresh_0 rfl ?_
  refine MV.getf 27 fl_X12_202 dX12_fresh_1 (by decide) rfl ?_
  refine MV.if_eq 9 dX12_fresh_4 (by decide) (fun z => absurd z (hf)) (fun _ => ?_)
  refine MV.iconst (v := 0) dX12_fresh_7 (by decide) ?_
  refine MV.iret dX12_fresh_8 rfl ?_
  exact ⟨rfl, rfl⟩
set_option maxRecDepth 100000 in
set_option maxHeartbeats 1000000 in
theorem fresh0_M {d n0 a : Nat} {κ : Kd} {h0 : Hp} (hd : 8 ≤ d) {s : St} {b : Nat → Int32} {n : Nat} {q : Tk} (hn : n ≤ 700) (hbb : ∀ k, k < n → ¬ b k = -1 ∧ b k < 256) (h : tkS b n s q) {P : Nat} (hP : P ≤ 6) (h4 : q.2.1 = -4) (hfd : findF (fun i => s.2.1 4 (6 + i)) q.2.2.2 P 0 = -1) : MV MX12_fresh (d, 0, 0, n0, κ) a h0 s 0 [some (.ref a), some (.ref (a + 3)), some (.int (nI 6)), some (.int (nI P)), none] [] (fun v s' => v = some (.int q.2.2.2) ∧ frK2 s s' ∧ tkS b n s' (tokN b n q)) := by
  have hs1 : s.1 25 = 1 := (kR_name h.1.2.2).1.mpr h4
  have hvv : s.1 26 = q.2.2.2 := (kR_name h.1.2.2).2 h4
  refine MV.aload_n dX12_fresh_0 rfl ?_
  refine MV.getf 27 fl_X12_202 dX12_fresh_1 (by decide) rfl ?_
  refine MV.if_eq 9 dX12_fresh_4 (by decide) (fun _ => ?_) (fun z => absurd (h.2.2.2.2.1) z)
  refine MV.aload_n dX12_fresh_9 rfl ?_
  refine MV.getf 25 fl_X12_167 dX12_fresh_10 (by decide) rfl ?_
  refine MV.iconst (v := 1) dX12_fresh_13 (by decide) ?_
  refine MV.icmp_eq 25 dX12_fresh_14 (by decide) (fun _ => ?_) (fun z => absurd (hs1) z)
  refine MV.aload_n dX12_fresh_25 rfl ?_
  refine MV.iload_n dX12_fresh_26 rfl ?_
  refine MV.iload_n dX12_fresh_27 rfl ?_
  refine MV.aload_n dX12_fresh_28 rfl ?_
  refine MV.getf 26 fl_X12_177 dX12_fresh_29 (by decide) rfl ?_
  refine MV.eqi q.2.2.2 hvv ?_
  refine MV.cS4 yoX12_found ml_X12_214 st_X12_found dX12_fresh_32 (Nat.le_of_ble_eq_true rfl) (by omega) rfl (Nat.le_of_ble_eq_true rfl) (fun h H => found2_V (g := 6) (n := P) (by omega) (C12_r4 H) (by omega) (by decide) hfd) ?_
  refine MV.iconst (v := (-1)) dX12_fresh_35 (by decide) ?_
  refine MV.icmp_eq 44 dX12_fresh_36 (by decide) (fun _ => ?_) (fun z => absurd (rfl) z)
  refine MV.aload_n dX12_fresh_44 rfl ?_
  refine MV.getf 27 fl_X12_202 dX12_fresh_45 (by decide) rfl ?_
  refine MV.if_eq 53 dX12_fresh_48 (by decide) (fun _ => ?_) (fun z => absurd (h.2.2.2.2.1) z)
  refine MV.aload_n dX12_fresh_53 rfl ?_
  refine MV.getf 26 fl_X12_177 dX12_fresh_54 (by decide) rfl ?_
  refine MV.istore dX12_fresh_57 (by decide) rfl ?_
  refine MV.aload_n dX12_fresh_59 rfl ?_
  refine MV.cV0 yoX12_token ml_X12_208 im_X12_token se_X12_token dX12_fresh_60 rfl (Nat.le_of_ble_eq_true rfl) (by omega) rfl (Nat.le_of_ble_eq_true rfl) (h.token (by omega) hn hbb) ?_
  rintro _ s2 ⟨rfl, h1, h2⟩
  refine MV.iload dX12_fresh_63 rfl ?_
  refine MV.iret dX12_fresh_65 rfl ?_
  exact ⟨by rw [hvv], h1, h2⟩
set_option maxRecDepth 100000 in
set_option maxHeartbeats 1000000 in
theorem freshF_M {d n0 a : Nat} {κ : Kd} {h0 : Hp} (hd : 2 ≤ d) {s : St} {b : Nat → Int32} {n : Nat} {q : Tk} (h : tkS b n s q) {P : Nat} (hP : P ≤ 6) {y : Int32} (hbad : ¬ q.2.1 = -4 ∨ (findF (fun i => s.2.1 4 (6 + i)) q.2.2.2 P 0 = y ∧ ¬ y = -1)) : MV MX12_fresh (d, 0, 0, n0, κ) a h0 s 0 [some (.ref a), some (.ref (a + 3)), some (.int (nI 6)), some (.int (nI P)), none] [] (fun v s' => v = some (.int 0) ∧ s' = wS s (if q.2.1 = -4 then 3 else 1)) := by
  by_cases h4 : q.2.1 = -4
  · skip
    rw [if_pos h4]
    obtain ⟨hfd, hy⟩ := hbad.resolve_left (fun z => z h4)
    have hs1 : s.1 25 = 1 := (kR_name h.1.2.2).1.mpr h4
    have hvv : s.1 26 = q.2.2.2 := (kR_name h.1.2.2).2 h4
    have hw : ¬ (wS s 3).1 27 = 0 := show ¬ (3 : Int32) = 0 by decide
    refine MV.aload_n dX12_fresh_0 rfl ?_
    refine MV.getf 27 fl_X12_202 dX12_fresh_1 (by decide) rfl ?_
    refine MV.if_eq 9 dX12_fresh_4 (by decide) (fun _ => ?_) (fun z => absurd (h.2.2.2.2.1) z)
    refine MV.aload_n dX12_fresh_9 rfl ?_
    refine MV.getf 25 fl_X12_167 dX12_fresh_10 (by decide) rfl ?_
    refine MV.iconst (v := 1) dX12_fresh_13 (by decide) ?_
    refine MV.icmp_eq 25 dX12_fresh_14 (by decide) (fun _ => ?_) (fun z => absurd (hs1) z)
    refine MV.aload_n dX12_fresh_25 rfl ?_
    refine MV.iload_n dX12_fresh_26 rfl ?_
    refine MV.iload_n dX12_fresh_27 rfl ?_
    refine MV.aload_n dX12_fresh_28 rfl ?_
    refine MV.getf 26 fl_X12_177 dX12_fresh_29 (by decide) rfl ?_
    refine MV.eqi q.2.2.2 hvv ?_
    refine MV.cS4 yoX12_found ml_X12_214 st_X12_found dX12_fresh_32 (Nat.le_of_ble_eq_true rfl) (by omega) rfl (Nat.le_of_ble_eq_true rfl) (fun h H => found2_V (g := 6) (n := P) (by omega) (C12_r4 H) (by omega) (by decide) hfd) ?_
    refine MV.iconst (v := (-1)) dX12_fresh_35 (by decide) ?_
    refine MV.icmp_eq 44 dX12_fresh_36 (by decide) (fun z => absurd z (hy)) (fun _ => ?_)
    refine MV.aload_n dX12_fresh_39 rfl ?_
    refine MV.iconst (v := 3) dX12_fresh_40 (by decide) ?_
    refine MV.cV1 yoX12_wrong ml_X12_211 im_X12_wrong se_X12_wrong dX12_fresh_41 rfl (Nat.le_of_ble_eq_true rfl) (by omega) rfl (Nat.le_of_ble_eq_true rfl) (wrong0_M (by omega) h.2.2.2.2.1) ?_
    rintro _ _ ⟨rfl, rfl⟩
    refine MV.aload_n dX12_fresh_44 rfl ?_
    refine MV.getf 27 fl_X12_202 dX12_fresh_45 (by decide) rfl ?_
    refine MV.if_eq 53 dX12_fresh_48 (by decide) (fun z => absurd z (hw)) (fun _ => ?_)
    refine MV.iconst (v := 0) dX12_fresh_51 (by decide) ?_
    refine MV.iret dX12_fresh_52 rfl ?_
    exact ⟨rfl, rfl⟩
  · skip
    rw [if_neg h4]
    have hs1 : ¬ s.1 25 = 1 := fun z => h4 ((kR_name h.1.2.2).1.mp z)
    have hw : ¬ (wS s 1).1 27 = 0 := show ¬ (1 : Int32) = 0 by decide
    refine MV.aload_n dX12_fresh_0 rfl ?_
    refine MV.getf 27 fl_X12_202 dX12_fresh_1 (by decide) rfl ?_
    refine MV.if_eq 9 dX12_fresh_4 (by decide) (fun _ => ?_) (fun z => absurd (h.2.2.2.2.1) z)
    refine MV.aload_n dX12_fresh_9 rfl ?_
    refine MV.getf 25 fl_X12_167 dX12_fresh_10 (by decide) rfl ?_
    refine MV.iconst (v := 1) dX12_fresh_13 (by decide) ?_
    refine MV.icmp_eq 25 dX12_fresh_14 (by decide) (fun z => absurd z (hs1)) (fun _ => ?_)
    refine MV.aload_n dX12_fresh_17 rfl ?_
    refine MV.iconst (v := 1) dX12_fresh_18 (by decide) ?_
    refine MV.cV1 yoX12_wrong ml_X12_211 im_X12_wrong se_X12_wrong dX12_fresh_19 rfl (Nat.le_of_ble_eq_true rfl) (by omega) rfl (Nat.le_of_ble_eq_true rfl) (wrong0_M (by omega) h.2.2.2.2.1) ?_
    rintro _ _ ⟨rfl, rfl⟩
    refine MV.goto 44 dX12_fresh_22 (by decide) ?_
    refine MV.aload_n dX12_fresh_44 rfl ?_
    refine MV.getf 27 fl_X12_202 dX12_fresh_45 (by decide) rfl ?_
    refine MV.if_eq 53 dX12_fresh_48 (by decide) (fun z => absurd z (hw)) (fun _ => ?_)
    refine MV.iconst (v := 0) dX12_fresh_51 (by decide) ?_
    refine MV.iret dX12_fresh_52 rfl ?_
    exact ⟨rfl, rfl⟩
theorem freshD_M {d n0 a : Nat} {κ : Kd} {h0 : Hp} (hd : 8 ≤ d) {s : St} {b : Nat → Int32} {n : Nat} (hn : n ≤ 700) (hbb : ∀ k, k < n → ¬ b k = -1 ∧ b k < 256) {R : Bool × PS} {S : PS} {P : Nat} (hm : nmR S.2.1 s P) (h : FAILS R s ∨ (R = bindP (nextP (-4) S) (rPers1 b n) ∧ tkS b n s S.1)) : MV MX12_fresh (d, 0, 0, n0, κ) a h0 s 0 [some (.ref a), some (.ref (a + 3)), some (.int (nI 6)), some (.int (nI P)), none] [] (fun v s' => ∃ r, v = some (.int r) ∧ frK3 s s' ∧ (FAILS R s' ∨ (R = bindP (numP 1 60 (stepP b n S)) (rPers2 b n S.1.2.2.2) ∧ r = S.1.2.2.2 ∧ tkS b n s' (tokN b n S.1)))) := by
  have hP := hm.1
  rcases h with h | ⟨h, ht⟩
  · exact MV.post (fun v s' z => ⟨_, z.1, by rw [z.2]; exact frK3.rf, Or.inl (by rw [z.2]; exact h)⟩) (fresh1_M (by omega) h.ne)
  · have hfp := findP_nm hm
    by_cases h4 : S.1.2.1 = -4
    · have hR : R = rPers1 b n S := by
        rw [h]
        unfold nextP
        rw [if_pos h4]
        rfl
      by_cases hfd : findF (fun i => s.2.1 4 (6 + i)) S.1.2.2.2 P 0 = -1
      · refine MV.post (fun v s' z => ⟨_, z.1, frK3.of z.2.1, Or.inr ⟨?_, rfl, z.2.2⟩⟩) (fresh0_M hd hn hbb ht hP h4 hfd)
        rw [hR]
        unfold rPers1
        rw [if_pos (by rw [hfp]; exact (findF_m1 P 0 (by omega)).mpr hfd)]
      · refine MV.post (fun v s' z => ⟨_, z.1, by rw [z.2]; exact frK3.rf.w, Or.inl ?_⟩) (freshF_M (by omega) ht hP (Or.inr ⟨rfl, hfd⟩))
        rw [z.2, if_pos h4]
        refine FAILS.w (S := S) ?_ (by decide) ht.1
        rw [hR]
        unfold rPers1
        rw [if_neg (by rw [hfp]; exact fun y => hfd ((findF_m1 P 0 (by omega)).mp y))]
    · refine MV.post (fun v s' z => ⟨_, z.1, by rw [z.2]; exact frK3.rf.w, Or.inl ?_⟩) (freshF_M (y := 0) (by omega) ht hP (Or.inl h4))
      rw [z.2, if_neg h4]
      refine FAILS.w (S := S) ?_ (by decide) ht.1
      rw [h]
      unfold nextP
      rw [if_neg h4]
      rfl
set_option maxRecDepth 100000 in
set_option maxHeartbeats 1000000 in
theorem manAt1_M {d n0 a : Nat} {κ : Kd} {h0 : Hp} (hd : 1 ≤ d) {s : St} (hf : ¬ s.1 27 = 0) : MV MX12_manAtHand (d, 0, 0, n0, κ) a h0 s 0 [some (.ref a), none] [] (fun v s' => v = some (.int 0) ∧ s' = s) := by
  refine MV.aload_n dX12_manAtHand_0 rfl ?_
  refine MV.getf 27 fl_X12_202 dX12_manAtHand_1 (by decide) rfl ?_
  refine MV.if_eq 9 dX12_manAtHand_4 (by decide) (fun z => absurd z (hf)) (fun _ => ?_)
  refine MV.iconst (v := 0) dX12_manAtHand_7 (by decide) ?_
  refine MV.iret dX12_manAtHand_8 rfl ?_
  exact ⟨rfl, rfl⟩
set_option maxRecDepth 100000 in
set_option maxHeartbeats 1000000 in
theorem manAt0_M {d n0 a : Nat} {κ : Kd} {h0 : Hp} (hd : 2 ≤ d) {s : St} {b : Nat → Int32} {n : Nat} {q : Tk} (h : tkS b n s q) {P : Nat} (hP : P ≤ 6) (h8 : s.2.1 3 8 = nI P) {y : Int32} (h4 : q.2.1 = -4) (hfd : findF (fun i => s.2.1 4 (6 + i)) q.2.2.2 P 0 = y) (hy : ¬ y = -1) : MV MX12_manAtHand (d, 0, 0, n0, κ) a h0 s 0 [some (.ref a), none] [] (fun v s' => v = some (.int y) ∧ s' = s) := by
  have hs1 : s.1 25 = 1 := (kR_name h.1.2.2).1.mpr h4
  have hvv : s.1 26 = q.2.2.2 := (kR_name h.1.2.2).2 h4
  refine MV.aload_n dX12_manAtHand_0 rfl ?_
  refine MV.getf 27 fl_X12_202 dX12_manAtHand_1 (by decide) rfl ?_
  refine MV.if_eq 9 dX12_manAtHand_4 (by decide) (fun _ => ?_) (fun z => absurd (h.2.2.2.2.1) z)
  refine MV.aload_n dX12_manAtHand_9 rfl ?_
  refine MV.getf 25 fl_X12_167 dX12_manAtHand_10 (by decide) rfl ?_
  refine MV.iconst (v := 1) dX12_manAtHand_13 (by decide) ?_
  refine MV.icmp_eq 22 dX12_manAtHand_14 (by decide) (fun _ => ?_) (fun z => absurd (hs1) z)
  refine MV.aload_n dX12_manAtHand_22 rfl ?_
  refine MV.getf 27 fl_X12_202 dX12_manAtHand_23 (by decide) rfl ?_
  refine MV.if_ne 50 dX12_manAtHand_26 (by decide) (fun z => absurd (h.2.2.2.2.1) z) (fun _ => ?_)
  refine MV.aload_n dX12_manAtHand_29 rfl ?_
  refine MV.getf 4 fl_X12_16 dX12_manAtHand_30 (by decide) rfl ?_
  refine MV.bipush (v := nI 6) dX12_manAtHand_33 (by decide) ?_
  refine MV.aload_n dX12_manAtHand_35 rfl ?_
  refine MV.iconst (v := nI 0) dX12_manAtHand_36 (by decide) ?_
  refine MV.cV1 yoX12_fresher ml_X12_218 im_X12_fresher se_X12_fresher dX12_manAtHand_37 rfl (Nat.le_of_ble_eq_true rfl) (by omega) rfl (Nat.le_of_ble_eq_true rfl) (fresher_M (k := 0) (by omega) (by omega)) (MV.rdK ?_)
  refine MV.eqi (nI P) h8 ?_
  refine MV.aload_n dX12_manAtHand_40 rfl ?_
  refine MV.getf 26 fl_X12_177 dX12_manAtHand_41 (by decide) rfl ?_
  refine MV.eqi q.2.2.2 hvv ?_
  refine MV.cS4 yoX12_found ml_X12_214 st_X12_found dX12_manAtHand_44 (Nat.le_of_ble_eq_true rfl) (by omega) rfl (Nat.le_of_ble_eq_true rfl) (fun h H => found2_V (g := 6) (n := P) (by omega) (C12_r4 H) (by omega) (by decide) hfd) ?_
  refine MV.goto 51 dX12_manAtHand_47 (by decide) ?_
  refine MV.istore_n dX12_manAtHand_51 (by decide) rfl ?_
  refine MV.aload_n dX12_manAtHand_52 rfl ?_
  refine MV.getf 27 fl_X12_202 dX12_manAtHand_53 (by decide) rfl ?_
  refine MV.if_ne 69 dX12_manAtHand_56 (by decide) (fun z => absurd (h.2.2.2.2.1) z) (fun _ => ?_)
  refine MV.iload_n dX12_manAtHand_59 rfl ?_
  refine MV.iconst (v := (-1)) dX12_manAtHand_60 (by decide) ?_
  refine MV.icmp_ne 69 dX12_manAtHand_61 (by decide) (fun _ => ?_) (fun z => absurd z (hy))
  refine MV.aload_n dX12_manAtHand_69 rfl ?_
  refine MV.getf 27 fl_X12_202 dX12_manAtHand_70 (by decide) rfl ?_
  refine MV.if_eq 80 dX12_manAtHand_73 (by decide) (fun _ => ?_) (fun z => absurd (h.2.2.2.2.1) z)
  refine MV.iload_n dX12_manAtHand_80 rfl ?_
  refine MV.iret dX12_manAtHand_81 rfl ?_
  exact ⟨rfl, rfl⟩
set_option maxRecDepth 100000 in
set_option maxHeartbeats 1000000 in
theorem manAtF_M {d n0 a : Nat} {κ : Kd} {h0 : Hp} (hd : 2 ≤ d) {s : St} {b : Nat → Int32} {n : Nat} {q : Tk} (h : tkS b n s q) {P : Nat} (hP : P ≤ 6) (h8 : s.2.1 3 8 = nI P) (hbad : ¬ q.2.1 = -4 ∨ findF (fun i => s.2.1 4 (6 + i)) q.2.2.2 P 0 = -1) : MV MX12_manAtHand (d, 0, 0, n0, κ) a h0 s 0 [some (.ref a), none] [] (fun v s' => v = some (.int 0) ∧ s' = wS s (if q.2.1 = -4 then 4 else 1)) := by
  by_cases h4 : q.2.1 = -4
  · skip
    rw [if_pos h4]
    have hfd := hbad.resolve_left (fun z => z h4)
    have hs1 : s.1 25 = 1 := (kR_name h.1.2.2).1.mpr h4
    have hvv : s.1 26 = q.2.2.2 := (kR_name h.1.2.2).2 h4
    have hw : ¬ (wS s 4).1 27 = 0 := show ¬ (4 : Int32) = 0 by decide
    refine MV.aload_n dX12_manAtHand_0 rfl ?_
    refine MV.getf 27 fl_X12_202 dX12_manAtHand_1 (by decide) rfl ?_
    refine MV.if_eq 9 dX12_manAtHand_4 (by decide) (fun _ => ?_) (fun z => absurd (h.2.2.2.2.1) z)
    refine MV.aload_n dX12_manAtHand_9 rfl ?_
    refine MV.getf 25 fl_X12_167 dX12_manAtHand_10 (by decide) rfl ?_
    refine MV.iconst (v := 1) dX12_manAtHand_13 (by decide) ?_
    refine MV.icmp_eq 22 dX12_manAtHand_14 (by decide) (fun _ => ?_) (fun z => absurd (hs1) z)
    refine MV.aload_n dX12_manAtHand_22 rfl ?_
    refine MV.getf 27 fl_X12_202 dX12_manAtHand_23 (by decide) rfl ?_
    refine MV.if_ne 50 dX12_manAtHand_26 (by decide) (fun z => absurd (h.2.2.2.2.1) z) (fun _ => ?_)
    refine MV.aload_n dX12_manAtHand_29 rfl ?_
    refine MV.getf 4 fl_X12_16 dX12_manAtHand_30 (by decide) rfl ?_
    refine MV.bipush (v := nI 6) dX12_manAtHand_33 (by decide) ?_
    refine MV.aload_n dX12_manAtHand_35 rfl ?_
    refine MV.iconst (v := nI 0) dX12_manAtHand_36 (by decide) ?_
    refine MV.cV1 yoX12_fresher ml_X12_218 im_X12_fresher se_X12_fresher dX12_manAtHand_37 rfl (Nat.le_of_ble_eq_true rfl) (by omega) rfl (Nat.le_of_ble_eq_true rfl) (fresher_M (k := 0) (by omega) (by omega)) (MV.rdK ?_)
    refine MV.eqi (nI P) h8 ?_
    refine MV.aload_n dX12_manAtHand_40 rfl ?_
    refine MV.getf 26 fl_X12_177 dX12_manAtHand_41 (by decide) rfl ?_
    refine MV.eqi q.2.2.2 hvv ?_
    refine MV.cS4 yoX12_found ml_X12_214 st_X12_found dX12_manAtHand_44 (Nat.le_of_ble_eq_true rfl) (by omega) rfl (Nat.le_of_ble_eq_true rfl) (fun h H => found2_V (g := 6) (n := P) (by omega) (C12_r4 H) (by omega) (by decide) hfd) ?_
    refine MV.goto 51 dX12_manAtHand_47 (by decide) ?_
    refine MV.istore_n dX12_manAtHand_51 (by decide) rfl ?_
    refine MV.aload_n dX12_manAtHand_52 rfl ?_
    refine MV.getf 27 fl_X12_202 dX12_manAtHand_53 (by decide) rfl ?_
    refine MV.if_ne 69 dX12_manAtHand_56 (by decide) (fun z => absurd (h.2.2.2.2.1) z) (fun _ => ?_)
    refine MV.iload_n dX12_manAtHand_59 rfl ?_
    refine MV.iconst (v := (-1)) dX12_manAtHand_60 (by decide) ?_
    refine MV.icmp_ne 69 dX12_manAtHand_61 (by decide) (fun z => absurd (rfl) z) (fun _ => ?_)
    refine MV.aload_n dX12_manAtHand_64 rfl ?_
    refine MV.iconst (v := 4) dX12_manAtHand_65 (by decide) ?_
    refine MV.cV1 yoX12_wrong ml_X12_211 im_X12_wrong se_X12_wrong dX12_manAtHand_66 rfl (Nat.le_of_ble_eq_true rfl) (by omega) rfl (Nat.le_of_ble_eq_true rfl) (wrong0_M (by omega) h.2.2.2.2.1) ?_
    rintro _ _ ⟨rfl, rfl⟩
    refine MV.aload_n dX12_manAtHand_69 rfl ?_
    refine MV.getf 27 fl_X12_202 dX12_manAtHand_70 (by decide) rfl ?_
    refine MV.if_eq 80 dX12_manAtHand_73 (by decide) (fun z => absurd z (hw)) (fun _ => ?_)
    refine MV.iconst (v := 0) dX12_manAtHand_76 (by decide) ?_
    refine MV.goto 81 dX12_manAtHand_77 (by decide) ?_
    refine MV.iret dX12_manAtHand_81 rfl ?_
    exact ⟨rfl, rfl⟩
  · skip
    rw [if_neg h4]
    have hs1 : ¬ s.1 25 = 1 := fun z => h4 ((kR_name h.1.2.2).1.mp z)
    have hw : ¬ (wS s 1).1 27 = 0 := show ¬ (1 : Int32) = 0 by decide
    refine MV.aload_n dX12_manAtHand_0 rfl ?_
    refine MV.getf 27 fl_X12_202 dX12_manAtHand_1 (by decide) rfl ?_
    refine MV.if_eq 9 dX12_manAtHand_4 (by decide) (fun _ => ?_) (fun z => absurd (h.2.2.2.2.1) z)
    refine MV.aload_n dX12_manAtHand_9 rfl ?_
    refine MV.getf 25 fl_X12_167 dX12_manAtHand_10 (by decide) rfl ?_
    refine MV.iconst (v := 1) dX12_manAtHand_13 (by decide) ?_
    refine MV.icmp_eq 22 dX12_manAtHand_14 (by decide) (fun z => absurd z (hs1)) (fun _ => ?_)
    refine MV.aload_n dX12_manAtHand_17 rfl ?_
    refine MV.iconst (v := 1) dX12_manAtHand_18 (by decide) ?_
    refine MV.cV1 yoX12_wrong ml_X12_211 im_X12_wrong se_X12_wrong dX12_manAtHand_19 rfl (Nat.le_of_ble_eq_true rfl) (by omega) rfl (Nat.le_of_ble_eq_true rfl) (wrong0_M (by omega) h.2.2.2.2.1) ?_
    rintro _ _ ⟨rfl, rfl⟩
    refine MV.aload_n dX12_manAtHand_22 rfl ?_
    refine MV.getf 27 fl_X12_202 dX12_manAtHand_23 (by decide) rfl ?_
    refine MV.if_ne 50 dX12_manAtHand_26 (by decide) (fun _ => ?_) (fun z => absurd z (hw))
    refine MV.iconst (v := 0) dX12_manAtHand_50 (by decide) ?_
    refine MV.istore_n dX12_manAtHand_51 (by decide) rfl ?_
    refine MV.aload_n dX12_manAtHand_52 rfl ?_
    refine MV.getf 27 fl_X12_202 dX12_manAtHand_53 (by decide) rfl ?_
    refine MV.if_ne 69 dX12_manAtHand_56 (by decide) (fun _ => ?_) (fun z => absurd z (hw))
    refine MV.aload_n dX12_manAtHand_69 rfl ?_
    refine MV.getf 27 fl_X12_202 dX12_manAtHand_70 (by decide) rfl ?_
    refine MV.if_eq 80 dX12_manAtHand_73 (by decide) (fun z => absurd z (hw)) (fun _ => ?_)
    refine MV.iconst (v := 0) dX12_manAtHand_76 (by decide) ?_
    refine MV.goto 81 dX12_manAtHand_77 (by decide) ?_
    refine MV.iret dX12_manAtHand_81 rfl ?_
    exact ⟨rfl, rfl⟩
theorem manAtD_M {d n0 a : Nat} {κ : Kd} {h0 : Hp} (hd : 2 ≤ d) {s : St} {b : Nat → Int32} {n : Nat} {R : Bool × PS} {S : PS} {k : PS → Bool × PS} {P : Nat} (hm : nmR S.2.1 s P) (h : FAILS R s ∨ (R = bindP (persP S) k ∧ tkS b n s S.1)) : MV MX12_manAtHand (d, 0, 0, n0, κ) a h0 s 0 [some (.ref a), none] [] (fun v s' => ∃ r, v = some (.int r) ∧ frK3 s s' ∧ (FAILS R s' ∨ (R = k S ∧ (∃ i, i < P ∧ r = nI i ∧ findP S = nI i) ∧ s' = s ∧ tkS b n s S.1))) := by
  have hP := hm.1
  rcases h with h | ⟨h, ht⟩
  · exact MV.post (fun v s' z => ⟨_, z.1, by rw [z.2]; exact frK3.rf, Or.inl (by rw [z.2]; exact h)⟩) (manAt1_M (by omega) h.ne)
  · have hfp := findP_nm hm
    by_cases h4 : S.1.2.1 = -4
    · have hR : R = bindP (if findP S < 0 then (false, failP 4 S) else (true, S)) k := by
        rw [h]
        unfold persP
        rw [if_pos h4]
      by_cases hfd : findF (fun i => s.2.1 4 (6 + i)) S.1.2.2.2 P 0 = -1
      · refine MV.post (fun v s' z => ⟨_, z.1, by rw [z.2]; exact frK3.rf.w, Or.inl ?_⟩) (manAtF_M (by omega) ht hP hm.2.1 (Or.inr hfd))
        rw [z.2, if_pos h4]
        refine FAILS.w (S := S) ?_ (by decide) ht.1
        rw [hR, if_pos (by rw [hfp]; exact (findF_m1 P 0 (by omega)).mpr hfd)]
        rfl
      · have hn0 : ¬ findF (fun i => s.2.1 4 (6 + i)) S.1.2.2.2 P 0 < 0 := fun y => hfd ((findF_m1 P 0 (by omega)).mp y)
        obtain ⟨j, j1, j2⟩ := findF_nI P 0 (by omega) hn0
        refine MV.post (fun v s' z => ⟨_, z.1, by rw [z.2]; exact frK3.rf, Or.inr ⟨?_, ⟨j, by omega, j1, by rw [hfp]; exact j1⟩, z.2, ht⟩⟩) (manAt0_M (by omega) ht hP hm.2.1 h4 rfl hfd)
        rw [hR, if_neg (by rw [hfp]; exact hn0)]
        rfl
    · refine MV.post (fun v s' z => ⟨_, z.1, by rw [z.2]; exact frK3.rf.w, Or.inl ?_⟩) (manAtF_M (by omega) ht hP hm.2.1 (Or.inl h4))
      rw [z.2, if_neg h4]
      refine FAILS.w (S := S) ?_ (by decide) ht.1
      rw [h]
      unfold persP
      rw [if_neg h4]
      rfl
set_option maxRecDepth 100000 in
set_option maxHeartbeats 1000000 in
theorem manAheadD_M {d n0 a : Nat} {κ : Kd} {h0 : Hp} (hd : 9 ≤ d) {s : St} {b : Nat → Int32} {n : Nat} (hn : n ≤ 700) (hbb : ∀ k, k < n → ¬ b k = -1 ∧ b k < 256) {R : Bool × PS} {S : PS} {k : PS → Bool × PS} {P : Nat} (hm : nmR S.2.1 s P) (h : FAILS R s ∨ (R = bindP (persP S) k ∧ tkS b n s S.1)) : MV MX12_manAhead (d, 0, 0, n0, κ) a h0 s 0 [some (.ref a), none] [] (fun v s' => ∃ r, v = some (.int r) ∧ frK3 s s' ∧ (FAILS R s' ∨ (R = k S ∧ (∃ i, i < P ∧ r = nI i ∧ findP S = nI i) ∧ tkS b n s' (tokN b n S.1)))) := by
  refine MV.aload_n dX12_manAhead_0 rfl ?_
  refine MV.cV0 yoX12_manAtHand ml_X12_222 im_X12_manAtHand se_X12_manAtHand dX12_manAhead_1 rfl (Nat.le_of_ble_eq_true rfl) (by omega) rfl (Nat.le_of_ble_eq_true rfl) (manAtD_M (by omega) hm h) ?_
  rintro _ s1 ⟨r, rfl, f1, hD⟩
  rcases hD with hD | ⟨hR, hi, rfl, ht⟩
  · skip
    refine MV.istore_n dX12_manAhead_4 (by decide) rfl ?_
    refine MV.aload_n dX12_manAhead_5 rfl ?_
    refine MV.cV0 yoX12_goOn ml_X12_225 im_X12_goOn se_X12_goOn dX12_manAhead_6 rfl (Nat.le_of_ble_eq_true rfl) (by omega) rfl (Nat.le_of_ble_eq_true rfl) (goOn1_M (s := s1) (by omega) hD.ne) ?_
    rintro _ _ ⟨rfl, rfl⟩
    refine MV.iload_n dX12_manAhead_9 rfl ?_
    refine MV.iret dX12_manAhead_10 rfl ?_
    exact ⟨r, rfl, f1, Or.inl hD⟩
  · skip
    refine MV.istore_n dX12_manAhead_4 (by decide) rfl ?_
    refine MV.aload_n dX12_manAhead_5 rfl ?_
    refine MV.cV0 yoX12_goOn ml_X12_225 im_X12_goOn se_X12_goOn dX12_manAhead_6 rfl (Nat.le_of_ble_eq_true rfl) (by omega) rfl (Nat.le_of_ble_eq_true rfl) (goOn0_M (q := S.1) (by omega) ht.2.2.1 ht.1.1 hn ht.2.1 (by rw [ht.2.2.2.1]; exact hbb) ht.2.2.2.2.1) ?_
    rintro _ s2 ⟨rfl, h1, h2⟩
    refine MV.iload_n dX12_manAhead_9 rfl ?_
    refine MV.iret dX12_manAhead_10 rfl ?_
    exact ⟨r, rfl, frK3.of h1, Or.inr ⟨hR, hi, ht.tok h1 (by rwa [ht.2.2.2.1] at h2)⟩⟩
def fullB (s : St) (x : Int32) : Bool := if x = 0 then decide (s.2.1 3 8 = 6) else if x = 1 then decide (s.2.1 3 9 = 12) else if x = 2 then decide (s.2.1 3 10 = 12) else if x = 3 then decide (s.2.1 3 11 = 8) else if x = 4 then decide (s.2.1 3 12 = 8) else false
set_option maxRecDepth 100000 in
set_option maxHeartbeats 1000000 in
theorem isFull_M {d n0 a : Nat} {κ : Kd} {h0 : Hp} (hd : 2 ≤ d) {s : St} {x : Int32} : MV MX12_isFull (d, 0, 0, n0, κ) a h0 s 0 [some (.ref a), some (.int (x))] [] (mR s (.int (bI (fullB s x)))) := by
  refine MV.iload_n dX12_isFull_0 rfl ?_
  refine MV.tswG [(0, 36), (1, 52), (2, 68), (3, 84), (4, 100)] 116 dX12_isFull_1 (by decide) (by decide +kernel) (fa_cons (fun cs1 => ?_) (fa_cons (fun cs1 => ?_) (fa_cons (fun cs1 => ?_) (fa_cons (fun cs1 => ?_) (fa_cons (fun cs1 => ?_) fa_nil))))) (fun co1 => ?_)
  · skip
    refine MV.aload_n dX12_isFull_36 rfl ?_
    refine MV.iconst (v := nI 0) dX12_isFull_37 (by decide) ?_
    refine MV.cV1 yoX12_fresher ml_X12_218 im_X12_fresher se_X12_fresher dX12_isFull_38 rfl (Nat.le_of_ble_eq_true rfl) (by omega) rfl (Nat.le_of_ble_eq_true rfl) (fresher_M (k := 0) (by omega) (by omega)) (MV.rdK ?_)
    refine MV.bipush (v := 6) dX12_isFull_41 (by decide) ?_
    refine MV.icmp_ne 50 dX12_isFull_43 (by decide) (fun c43 => ?_) (fun c43 => ?_)
    · skip
      refine MV.iconst (v := 0) dX12_isFull_50 (by decide) ?_
      refine MV.zret .boolean dX12_isFull_51 rfl (rfl) ?_
      first
      | (refine ⟨?_, rfl⟩; rw [cs1]; show some (Value.int _) = some (Value.int (bI (decide (s.2.1 3 8 = 6)))); rw [bI_dt c43]; done)
      | (refine ⟨?_, rfl⟩; rw [cs1]; show some (Value.int _) = some (Value.int (bI (decide (s.2.1 3 8 = 6)))); rw [bI_df c43]; done)
    · skip
      refine MV.iconst (v := 1) dX12_isFull_46 (by decide) ?_
      refine MV.goto 51 dX12_isFull_47 (by decide) ?_
      refine MV.zret .boolean dX12_isFull_51 rfl (rfl) ?_
      first
      | (refine ⟨?_, rfl⟩; rw [cs1]; show some (Value.int _) = some (Value.int (bI (decide (s.2.1 3 8 = 6)))); rw [bI_dt c43]; done)
      | (refine ⟨?_, rfl⟩; rw [cs1]; show some (Value.int _) = some (Value.int (bI (decide (s.2.1 3 8 = 6)))); rw [bI_df c43]; done)
  · skip
    refine MV.aload_n dX12_isFull_52 rfl ?_
    refine MV.iconst (v := nI 1) dX12_isFull_53 (by decide) ?_
    refine MV.cV1 yoX12_fresher ml_X12_218 im_X12_fresher se_X12_fresher dX12_isFull_54 rfl (Nat.le_of_ble_eq_true rfl) (by omega) rfl (Nat.le_of_ble_eq_true rfl) (fresher_M (k := 1) (by omega) (by omega)) (MV.rdK ?_)
    refine MV.bipush (v := 12) dX12_isFull_57 (by decide) ?_
    refine MV.icmp_ne 66 dX12_isFull_59 (by decide) (fun c59 => ?_) (fun c59 => ?_)
    · skip
      refine MV.iconst (v := 0) dX12_isFull_66 (by decide) ?_
      refine MV.zret .boolean dX12_isFull_67 rfl (rfl) ?_
      first
      | (refine ⟨?_, rfl⟩; rw [cs1]; show some (Value.int _) = some (Value.int (bI (decide (s.2.1 3 9 = 12)))); rw [bI_dt c59]; done)
      | (refine ⟨?_, rfl⟩; rw [cs1]; show some (Value.int _) = some (Value.int (bI (decide (s.2.1 3 9 = 12)))); rw [bI_df c59]; done)
    · skip
      refine MV.iconst (v := 1) dX12_isFull_62 (by decide) ?_
      refine MV.goto 67 dX12_isFull_63 (by decide) ?_
      refine MV.zret .boolean dX12_isFull_67 rfl (rfl) ?_
      first
      | (refine ⟨?_, rfl⟩; rw [cs1]; show some (Value.int _) = some (Value.int (bI (decide (s.2.1 3 9 = 12)))); rw [bI_dt c59]; done)
      | (refine ⟨?_, rfl⟩; rw [cs1]; show some (Value.int _) = some (Value.int (bI (decide (s.2.1 3 9 = 12)))); rw [bI_df c59]; done)
  · skip
    refine MV.aload_n dX12_isFull_68 rfl ?_
    refine MV.iconst (v := nI 2) dX12_isFull_69 (by decide) ?_
    refine MV.cV1 yoX12_fresher ml_X12_218 im_X12_fresher se_X12_fresher dX12_isFull_70 rfl (Nat.le_of_ble_eq_true rfl) (by omega) rfl (Nat.le_of_ble_eq_true rfl) (fresher_M (k := 2) (by omega) (by omega)) (MV.rdK ?_)
    refine MV.bipush (v := 12) dX12_isFull_73 (by decide) ?_
    refine MV.icmp_ne 82 dX12_isFull_75 (by decide) (fun c75 => ?_) (fun c75 => ?_)
    · skip
      refine MV.iconst (v := 0) dX12_isFull_82 (by decide) ?_
      refine MV.zret .boolean dX12_isFull_83 rfl (rfl) ?_
      first
      | (refine ⟨?_, rfl⟩; rw [cs1]; show some (Value.int _) = some (Value.int (bI (decide (s.2.1 3 10 = 12)))); rw [bI_dt c75]; done)
      | (refine ⟨?_, rfl⟩; rw [cs1]; show some (Value.int _) = some (Value.int (bI (decide (s.2.1 3 10 = 12)))); rw [bI_df c75]; done)
    · skip
      refine MV.iconst (v := 1) dX12_isFull_78 (by decide) ?_
      refine MV.goto 83 dX12_isFull_79 (by decide) ?_
      refine MV.zret .boolean dX12_isFull_83 rfl (rfl) ?_
      first
      | (refine ⟨?_, rfl⟩; rw [cs1]; show some (Value.int _) = some (Value.int (bI (decide (s.2.1 3 10 = 12)))); rw [bI_dt c75]; done)
      | (refine ⟨?_, rfl⟩; rw [cs1]; show some (Value.int _) = some (Value.int (bI (decide (s.2.1 3 10 = 12)))); rw [bI_df c75]; done)
  · skip
    refine MV.aload_n dX12_isFull_84 rfl ?_
    refine MV.iconst (v := nI 3) dX12_isFull_85 (by decide) ?_
    refine MV.cV1 yoX12_fresher ml_X12_218 im_X12_fresher se_X12_fresher dX12_isFull_86 rfl (Nat.le_of_ble_eq_true rfl) (by omega) rfl (Nat.le_of_ble_eq_true rfl) (fresher_M (k := 3) (by omega) (by omega)) (MV.rdK ?_)
    refine MV.bipush (v := 8) dX12_isFull_89 (by decide) ?_
    refine MV.icmp_ne 98 dX12_isFull_91 (by decide) (fun c91 => ?_) (fun c91 => ?_)
    · skip
      refine MV.iconst (v := 0) dX12_isFull_98 (by decide) ?_
      refine MV.zret .boolean dX12_isFull_99 rfl (rfl) ?_
      first
      | (refine ⟨?_, rfl⟩; rw [cs1]; show some (Value.int _) = some (Value.int (bI (decide (s.2.1 3 11 = 8)))); rw [bI_dt c91]; done)
      | (refine ⟨?_, rfl⟩; rw [cs1]; show some (Value.int _) = some (Value.int (bI (decide (s.2.1 3 11 = 8)))); rw [bI_df c91]; done)
    · skip
      refine MV.iconst (v := 1) dX12_isFull_94 (by decide) ?_
      refine MV.goto 99 dX12_isFull_95 (by decide) ?_
      refine MV.zret .boolean dX12_isFull_99 rfl (rfl) ?_
      first
      | (refine ⟨?_, rfl⟩; rw [cs1]; show some (Value.int _) = some (Value.int (bI (decide (s.2.1 3 11 = 8)))); rw [bI_dt c91]; done)
      | (refine ⟨?_, rfl⟩; rw [cs1]; show some (Value.int _) = some (Value.int (bI (decide (s.2.1 3 11 = 8)))); rw [bI_df c91]; done)
  · skip
    refine MV.aload_n dX12_isFull_100 rfl ?_
    refine MV.iconst (v := nI 4) dX12_isFull_101 (by decide) ?_
    refine MV.cV1 yoX12_fresher ml_X12_218 im_X12_fresher se_X12_fresher dX12_isFull_102 rfl (Nat.le_of_ble_eq_true rfl) (by omega) rfl (Nat.le_of_ble_eq_true rfl) (fresher_M (k := 4) (by omega) (by omega)) (MV.rdK ?_)
    refine MV.bipush (v := 8) dX12_isFull_105 (by decide) ?_
    refine MV.icmp_ne 114 dX12_isFull_107 (by decide) (fun c107 => ?_) (fun c107 => ?_)
    · skip
      refine MV.iconst (v := 0) dX12_isFull_114 (by decide) ?_
      refine MV.zret .boolean dX12_isFull_115 rfl (rfl) ?_
      first
      | (refine ⟨?_, rfl⟩; rw [cs1]; show some (Value.int _) = some (Value.int (bI (decide (s.2.1 3 12 = 8)))); rw [bI_dt c107]; done)
      | (refine ⟨?_, rfl⟩; rw [cs1]; show some (Value.int _) = some (Value.int (bI (decide (s.2.1 3 12 = 8)))); rw [bI_df c107]; done)
    · skip
      refine MV.iconst (v := 1) dX12_isFull_110 (by decide) ?_
      refine MV.goto 115 dX12_isFull_111 (by decide) ?_
      refine MV.zret .boolean dX12_isFull_115 rfl (rfl) ?_
      first
      | (refine ⟨?_, rfl⟩; rw [cs1]; show some (Value.int _) = some (Value.int (bI (decide (s.2.1 3 12 = 8)))); rw [bI_dt c107]; done)
      | (refine ⟨?_, rfl⟩; rw [cs1]; show some (Value.int _) = some (Value.int (bI (decide (s.2.1 3 12 = 8)))); rw [bI_df c107]; done)
  · skip
    refine MV.iconst (v := 0) dX12_isFull_116 (by decide) ?_
    refine MV.zret .boolean dX12_isFull_117 rfl (rfl) ?_
    refine ⟨?_, rfl⟩
    unfold fullB
    have g := co1
    simp only [List.mem_cons, List.not_mem_nil, or_false, forall_eq_or_imp, forall_eq] at g
    rw [if_neg g.1, if_neg g.2.1, if_neg g.2.2.1, if_neg g.2.2.2.1, if_neg g.2.2.2.2]; rfl
