/-! Lines: june, lend of the model -/
theorem isJF_mk {jo ja : Nat → Int32} {p x : Int32} : ∀ k i j, i ≤ j → j < i + k → jo j = p → ja j = x → isJF jo ja p x k i = true := by
  intro k
  induction k with
  | zero => intro i j h1 h2; omega
  | succ k ih =>
    intro i j h1 h2 h3 h4
    unfold isJF
    by_cases z : jo i = p ∧ ja i = x
    · rw [if_pos z]
    · rw [if_neg z]
      exact ih (i + 1) j (by have : ¬ i = j := fun y => z (by rw [y]; exact ⟨h3, h4⟩); omega) (by omega) h3 h4
/-- behind a LINE's own calls: what BD wants -/
theorem BD.mk {b : Nat → Int32} {n : Nat} {S : PS} {s0 s sF : St} {w : Nat} {T2 : Tx} (h : LQ b n S s0 s w) (hw : w < 5 ∨ w = 7) {q2 : Tk} (hR : lineP b n S = (true, (q2, T2, S.2.2))) (ht : tkS b n sF q2) (hT : relT T2 (upF sF.2.1)) (h31 : sF.1 31 = s.1 31) (h32 : sF.1 32 = s.1 32) (h20 : sF.1 20 = s.1 20) (hL : T2.2 = S.2.1.2) (e12 : T2.1.1 12 = S.2.1.1.1 12) (e13 : T2.1.1 13 = S.2.1.1.1 13) : BD b n S sF := by
  obtain ⟨hf, h21, k20, hM, -, htd⟩ := h
  obtain ⟨g1, g2, g3, g4, g5, g6, g7⟩ := hM
  have hok := okS_line (b := b) g7 (by rw [hR])
  refine Or.inr ⟨by rw [hR], ?_⟩
  rw [hR] at hok ⊢
  obtain ⟨T21, T22⟩ := T2
  simp only at hL
  subst hL
  refine ⟨ht, ⟨hT, h31.trans g2, h32.trans g3, g4, g5, g6, hok⟩, ?_⟩
  rw [h20, k20]
  exact htd.same hw e12 e13 rfl
set_option maxRecDepth 100000 in
set_option maxHeartbeats 8000000 in
theorem juneLine_M {d n0 a : Nat} {κ : Kd} {h0 : Hp} (hd : 11 ≤ d) {b : Nat → Int32} {n : Nat} (hn : n ≤ 700) (hbb : ∀ k, k < n → ¬ b k = -1 ∧ b k < 256) {s0 s : St} {S : PS} (h : LQ b n S s0 s 1) (hk : S.1.2.1 = nI 1) (hfull : decide (s.2.1 3 9 = nI 12) = false) : MV MX12_juneLine (d, 0, 0, n0, κ) a h0 s 0 [some (.ref a), none, none] [] (fun v s' => v = none ∧ frP s0 s' ∧ s'.1 21 = s0.1 21 ∧ BD b n S s') := by
  have hLQ := h
  obtain ⟨hf, h21, h20, hM, ht, htd⟩ := h
  obtain ⟨g1, g2, g3, g4, g5, g6, g7⟩ := id hM
  obtain ⟨P, hPe⟩ : ∃ P, P = nat (S.2.1.1.1 0) := ⟨_, rfl⟩
  have hnm : nmR (stepP b n S).2.1 s P := by rw [hPe]; exact nmR.of g1
  have hj9 : okN (s.2.1 3 9) 13 ∧ S.2.1.1.1 5 = s.2.1 3 9 := ⟨g1.2.1.1, g1.2.1.2.1⟩
  obtain ⟨J, hJe⟩ : ∃ J, J = nat (s.2.1 3 9) := ⟨_, rfl⟩
  have hJ8 : s.2.1 3 9 = nI J := by rw [hJe]; exact hj9.1.1
  have hJ12 : J < 12 := by rw [hJe]; exact cnt_of (c := 12) (b := 13) hj9.1 (by omega) (by omega) hfull
  have hR : lineP b n S = bindP (persP (stepP b n S)) (rJune1 b n) := by
    rw [lP_1 hk]
    unfold rJune
    rw [if_pos]
    rw [hj9.2, hJ8]
    exact nI_lt (b := 12) hJ12 (by decide)
  refine MV.bipush (v := 12) dX12_juneLine_0 (by decide) ?_
  refine MV.aload_n dX12_juneLine_2 rfl ?_
  refine MV.iconst (v := nI 1) dX12_juneLine_3 (by decide) ?_
  refine MV.cV1 yoX12_fresher ml_X12_218 im_X12_fresher se_X12_fresher dX12_juneLine_4 rfl (Nat.le_of_ble_eq_true rfl) (by omega) rfl (Nat.le_of_ble_eq_true rfl) (fresher_M (k := 1) (by omega) (by omega)) (MV.rdK ?_)
  refine MV.eqi (nI J) (hJ8) ?_
  refine MV.iadd dX12_juneLine_7 ?_
  refine MV.eqi (nI (12 + J)) (nI_add 12 J) ?_
  refine MV.istore_n dX12_juneLine_8 (by decide) rfl ?_
  refine MV.aload_n dX12_juneLine_9 rfl ?_
  refine MV.getf 6 fl_X12_22 dX12_juneLine_10 (by decide) rfl ?_
  refine MV.iload_n dX12_juneLine_13 rfl ?_
  refine MV.aload_n dX12_juneLine_14 rfl ?_
  refine MV.cV0 yoX12_manAhead ml_X12_249 im_X12_manAhead se_X12_manAhead dX12_juneLine_15 rfl (Nat.le_of_ble_eq_true rfl) (by omega) rfl (Nat.le_of_ble_eq_true rfl) (manAheadD_M (S := (stepP b n S)) (P := P) (k := rJune1 b n) (by omega) hn hbb hnm (Or.inr ⟨hR, ht⟩)) ?_
  rintro _ s3 ⟨r, rfl, f3, hD3⟩
  refine MV.ast C12_in6 dX12_juneLine_18 (rfl) (by omega) (by decide) ?_
  refine MV.bipush (v := nI 12) dX12_juneLine_19 (by decide) ?_
  refine MV.istore_n dX12_juneLine_21 (by decide) rfl ?_
  obtain ⟨i0, hi0⟩ : ∃ i0, i0 = nat (findP (stepP b n S)) := ⟨_, rfl⟩
  have hdup : ∀ j, j < J → (lineP b n S = bindP (numP (nI 0) (nI 59) (stepP b n (stepP b n S))) (rJune2 b n i0) ∧ (r = nI i0 ∧ i0 < 6) ∧ tkS b n (mA s3 6 (12 + J) r) (stepP b n (stepP b n S)).1) → (stepP b n (stepP b n S)).1.2.1 = -3 → (mA s3 6 (12 + J) r).2.1 6 (12 + j) = (mA s3 6 (12 + J) r).2.1 6 (12 + J) → (mA s3 6 (12 + J) r).2.1 7 (12 + j) = (mA s3 6 (12 + J) r).1 26 → FAILS (lineP b n S) (wS (mA s3 6 (12 + J) r) 3) := by
    intro j hj hok hk3 c1 c2
    have e6 : s3.2 = s.2 := f3.1
    have c1' : s.2.1 6 (12 + j) = nI i0 := by
      have a1 : (mA s3 6 (12 + J) r).2.1 6 (12 + j) = s3.2.1 6 (12 + j) := by show (if 12 + j = 12 + J then r else s3.2.1 6 (12 + j)) = _; rw [if_neg (by omega)]
      have a2 : (mA s3 6 (12 + J) r).2.1 6 (12 + J) = r := by show (if 12 + J = 12 + J then r else s3.2.1 6 (12 + J)) = _; rw [if_pos rfl]
      rw [a1, a2, hok.2.1.1, e6] at c1
      exact c1
    have c2' : s.2.1 7 (12 + j) = (mA s3 6 (12 + J) r).1 26 := by rw [← e6]; exact c2
    have hJn : nat ((upF s.2.1) 3 1) = J := by show nat (s.2.1 3 9) = J; rw [hJ8]; exact nat_nI (by omega)
    have hj60 := (g1.2.1.2.2.1 j (by rw [hJn]; exact hj)).2
    have hj60' : okN (s.2.1 7 (12 + j)) 60 := hj60
    obtain ⟨x, y, v1, v2, v3, v4, v5⟩ := kR_numV hok.2.2.1.2.2 hk3
    have hx : nat (s.2.1 7 (12 + j)) = x := by rw [c2', show (mA s3 6 (12 + J) r).1 26 = nI x from v1]; exact nat_nI (by omega)
    have hxy : x = y := by have := hj60'.2; omega
    have hvl : (stepP b n (stepP b n S)).1.2.2.2 = s.2.1 7 (12 + j) := by rw [v2, ← hxy, c2']; exact v1.symm
    have hok6 : numOk (stepP b n (stepP b n S)).1 (nI 0) (nI 59) := ⟨hk3, by rw [v2]; exact nI_nlt0 y, by rw [v2]; exact nI_le (by have := hj60'.2; omega) (by decide)⟩
    have hjt : tJune S.2.1.1 i0 (stepP b n (stepP b n S)).1.2.2.2 = true := by
      rw [hvl, hj60'.1, june_iff g1 hok.2.1.2 hj60'.2]
      exact isJF_mk _ 0 j (by omega) (by rw [hJn]; omega) c1' (show s.2.1 7 (12 + j) = _ from hj60'.1)
    refine FAILS.w (S := (stepP b n (stepP b n S))) ?_ (by decide) hok.2.2.1
    rw [hok.1, bindP_k (numP_ok hok6)]
    unfold rJune2
    rw [if_pos (show tJune (stepP b n (stepP b n S)).2.1.1 i0 (stepP b n (stepP b n S)).1.2.2.2 = true from hjt)]
  have hloop : ∀ (k i : Nat) (s2 : St), i + k = J → frK3 (mA s3 6 (12 + J) r) s2 → (FAILS (lineP b n S) s2 ∨ (s2 = (mA s3 6 (12 + J) r) ∧ (lineP b n S = bindP (numP (nI 0) (nI 59) (stepP b n (stepP b n S))) (rJune2 b n i0) ∧ (r = nI i0 ∧ i0 < 6) ∧ tkS b n (mA s3 6 (12 + J) r) (stepP b n (stepP b n S)).1) ∧ ∀ j, j < i → ¬ ((mA s3 6 (12 + J) r).2.1 6 (12 + j) = (mA s3 6 (12 + J) r).2.1 6 (12 + J) ∧ (stepP b n (stepP b n S)).1.2.1 = -3 ∧ (mA s3 6 (12 + J) r).2.1 7 (12 + j) = (mA s3 6 (12 + J) r).1 26))) → MV MX12_juneLine (d, 0, 0, n0, κ) a h0 s2 22 [some (.ref a), some (.int (nI (12 + J))), some (.int (nI (12 + i)))] [] (fun v s' => v = none ∧ frP s0 s' ∧ s'.1 21 = s0.1 21 ∧ BD b n S s') := by
    intro k
    induction k with
    | zero =>
      intro i s2 hik hfr hQ
      have hi : J = i := by omega
      subst hi
      rcases hQ with hQ | ⟨hs2, hok, hnd⟩
      · skip
        refine MV.iload_n dX12_juneLine_22 rfl ?_
        refine MV.iload_n dX12_juneLine_23 rfl ?_
        refine MV.icmp_ge 81 dX12_juneLine_24 (by decide) (fun _ => ?_) (fun z => absurd (nI_le (by omega) (by omega)) z)
        refine MV.aload_n dX12_juneLine_81 rfl ?_
        refine MV.getf 7 fl_X12_25 dX12_juneLine_82 (by decide) rfl ?_
        refine MV.iload_n dX12_juneLine_85 rfl ?_
        refine MV.aload_n dX12_juneLine_86 rfl ?_
        refine MV.iconst (v := nI 0) dX12_juneLine_87 (by decide) ?_
        refine MV.bipush (v := nI 59) dX12_juneLine_88 (by decide) ?_
        refine MV.cV2 yoX12_numeral ml_X12_238 im_X12_numeral se_X12_numeral dX12_juneLine_90 rfl (Nat.le_of_ble_eq_true rfl) (by omega) rfl (Nat.le_of_ble_eq_true rfl) (numeral1_M (s := s2) (lo := nI 0) (hi := nI 59) (by omega) hQ.ne) ?_
        rintro _ s6 ⟨rfl, he6⟩
        have f6 : frK3 s2 s6 := by rw [he6]; exact frK3.rf
        skip
      
        have K6 : ∀ j, (j < 23 ∨ 28 < j) → s6.1 j = s.1 j := fun j hj => (f6.2 j (by omega) (by omega) (by omega) (by omega) (by omega) (by omega)).trans ((hfr.2 j (by omega) (by omega) (by omega) (by omega) (by omega) (by omega)).trans (f3.2 j (by omega) (by omega) (by omega) (by omega) (by omega) (by omega)))
        refine MV.ast C12_in7 dX12_juneLine_93 (rfl) (by omega) (by decide) ?_
        refine MV.aload_n dX12_juneLine_94 rfl ?_
        refine MV.iconst (v := nI 1) dX12_juneLine_95 (by decide) ?_
        refine MV.aload_n dX12_juneLine_96 rfl ?_
        refine MV.iconst (v := nI 1) dX12_juneLine_97 (by decide) ?_
        refine MV.cV1 yoX12_fresher ml_X12_218 im_X12_fresher se_X12_fresher dX12_juneLine_98 rfl (Nat.le_of_ble_eq_true rfl) (by omega) rfl (Nat.le_of_ble_eq_true rfl) (fresher_M (s := mA s6 7 (12 + J) (nI 0)) (k := 1) (by omega) (by omega)) (MV.rdK ?_)
        refine MV.eqi (nI J) (by show s6.2.1 3 9 = _; rw [f6.1, hfr.1]; show s3.2.1 3 9 = _; rw [f3.1]; exact hJ8) ?_
        refine MV.iconst (v := 1) dX12_juneLine_101 (by decide) ?_
        refine MV.iadd dX12_juneLine_102 ?_
        refine MV.eqi (nI (J + 1)) (nI_1 J) ?_
        refine MV.cV2 yoX12_reads ml_X12_242 im_X12_reads se_X12_reads dX12_juneLine_103 rfl (Nat.le_of_ble_eq_true rfl) (by omega) rfl (Nat.le_of_ble_eq_true rfl) (reads_M (s := mA s6 7 (12 + J) (nI 0)) (k := 1) (v := nI (J + 1)) (by omega) (by omega)) ?_
        rintro _ _ ⟨rfl, rfl⟩
        refine MV.vret dX12_juneLine_106 rfl ?_
        exact ⟨rfl, (((((hf.k3 f3).a (k := 6) (by decide) (by decide) (by show 12 ≤ 12 + J; omega)).k3 hfr).k3 f6).a (k := 7) (by decide) (by decide) (by show 12 ≤ 12 + J; omega)).a (k := 3) (by decide) (by decide) (by decide), (K6 21 (by decide)).trans h21, Or.inl (by rw [he6]; exact hQ)⟩
      · skip
        subst hs2
        have hiP : i0 < P := by
          rcases hD3 with hD3 | ⟨-, ⟨i, hi, -, hfi⟩, -⟩
          · exact absurd hok.2.2.2.2.2.2.1 hD3.ne
          · rw [hi0, hfi, nat_nI (by have := hnm.1; omega)]; exact hi
        refine MV.iload_n dX12_juneLine_22 rfl ?_
        refine MV.iload_n dX12_juneLine_23 rfl ?_
        refine MV.icmp_ge 81 dX12_juneLine_24 (by decide) (fun _ => ?_) (fun z => absurd (nI_le (by omega) (by omega)) z)
        refine MV.aload_n dX12_juneLine_81 rfl ?_
        refine MV.getf 7 fl_X12_25 dX12_juneLine_82 (by decide) rfl ?_
        refine MV.iload_n dX12_juneLine_85 rfl ?_
        refine MV.aload_n dX12_juneLine_86 rfl ?_
        refine MV.iconst (v := nI 0) dX12_juneLine_87 (by decide) ?_
        refine MV.bipush (v := nI 59) dX12_juneLine_88 (by decide) ?_
        refine MV.cV2 yoX12_numeral ml_X12_238 im_X12_numeral se_X12_numeral dX12_juneLine_90 rfl (Nat.le_of_ble_eq_true rfl) (by omega) rfl (Nat.le_of_ble_eq_true rfl) (numeralD_M (s := (mA s3 6 (12 + J) r)) (S := (stepP b n (stepP b n S))) (R := lineP b n S) (l := 0) (u := 59) (k := rJune2 b n i0) (by omega) hn hbb (by omega) (by omega) (Or.inr ⟨hok.1, hok.2.2⟩)) ?_
        rintro _ s6 ⟨r2, rfl, f6, hD6⟩
        have K6 : ∀ j, (j < 23 ∨ 28 < j) → s6.1 j = s.1 j := fun j hj => (f6.2 j (by omega) (by omega) (by omega) (by omega) (by omega) (by omega)).trans ((hfr.2 j (by omega) (by omega) (by omega) (by omega) (by omega) (by omega)).trans (f3.2 j (by omega) (by omega) (by omega) (by omega) (by omega) (by omega)))
        refine MV.ast C12_in7 dX12_juneLine_93 (rfl) (by omega) (by decide) ?_
        refine MV.aload_n dX12_juneLine_94 rfl ?_
        refine MV.iconst (v := nI 1) dX12_juneLine_95 (by decide) ?_
        refine MV.aload_n dX12_juneLine_96 rfl ?_
        refine MV.iconst (v := nI 1) dX12_juneLine_97 (by decide) ?_
        refine MV.cV1 yoX12_fresher ml_X12_218 im_X12_fresher se_X12_fresher dX12_juneLine_98 rfl (Nat.le_of_ble_eq_true rfl) (by omega) rfl (Nat.le_of_ble_eq_true rfl) (fresher_M (s := mA s6 7 (12 + J) r2) (k := 1) (by omega) (by omega)) (MV.rdK ?_)
        refine MV.eqi (nI J) (by show s6.2.1 3 9 = _; rw [f6.1, hfr.1]; show s3.2.1 3 9 = _; rw [f3.1]; exact hJ8) ?_
        refine MV.iconst (v := 1) dX12_juneLine_101 (by decide) ?_
        refine MV.iadd dX12_juneLine_102 ?_
        refine MV.eqi (nI (J + 1)) (nI_1 J) ?_
        refine MV.cV2 yoX12_reads ml_X12_242 im_X12_reads se_X12_reads dX12_juneLine_103 rfl (Nat.le_of_ble_eq_true rfl) (by omega) rfl (Nat.le_of_ble_eq_true rfl) (reads_M (s := mA s6 7 (12 + J) r2) (k := 1) (v := nI (J + 1)) (by omega) (by omega)) ?_
        rintro _ _ ⟨rfl, rfl⟩
        refine MV.vret dX12_juneLine_106 rfl ?_
        refine ⟨rfl, (((((hf.k3 f3).a (k := 6) (by decide) (by decide) (by show 12 ≤ 12 + J; omega)).k3 hfr).k3 f6).a (k := 7) (by decide) (by decide) (by show 12 ≤ 12 + J; omega)).a (k := 3) (by decide) (by decide) (by decide), (K6 21 (by decide)).trans h21, ?_⟩
        rcases hD6 with hD6 | ⟨hR6, hr2, hok6, ht6⟩
        · exact Or.inl hD6
        · obtain ⟨x60, hx⟩ := okN_le hok6 (by decide) (by decide)
          have hnt : tJune S.2.1.1 i0 (stepP b n (stepP b n S)).1.2.2.2 = false := by
            cases hb : tJune S.2.1.1 i0 (stepP b n (stepP b n S)).1.2.2.2 with
            | false => rfl
            | true =>
              have hx' : (stepP b n (stepP b n S)).1.2.2.2 = nI (nat (stepP b n (stepP b n S)).1.2.2.2) := x60
              rw [hx', june_iff g1 hok.2.1.2 hx] at hb
              obtain ⟨j, j1, j2, j3, j4⟩ := isJF_yes _ _ hb
              have hJn : nat ((upF s.2.1) 3 1) = J := by show nat (s.2.1 3 9) = J; rw [hJ8]; exact nat_nI (by omega)
              rw [hJn] at j2
              have e6 : s3.2 = s.2 := f3.1
              refine absurd ⟨?_, hok6.1, ?_⟩ (hnd j (by omega))
              · show (if 12 + j = 12 + J then r else s3.2.1 6 (12 + j)) = (if 12 + J = 12 + J then r else s3.2.1 6 (12 + J))
                rw [if_neg (by omega), if_pos rfl, e6, hok.2.1.1]
                exact j3
              · show s3.2.1 7 (12 + j) = s3.1 26
                rw [e6]
                refine Eq.trans (show s.2.1 7 (12 + j) = (stepP b n (stepP b n S)).1.2.2.2 from j4.trans hx'.symm) ?_
                exact ((num_cmp (l := 59) (kR_numV hok.2.2.1.2.2 hok6.1) (by decide)).2.2 hok6.2.2).symm
          have hRR : lineP b n S = (true, (tokN b n (stepP b n (stepP b n S)).1, (tJuneSet S.2.1.1 i0 (stepP b n (stepP b n S)).1.2.2.2, S.2.1.2), S.2.2)) := by
            rw [hR6]
            unfold rJune2
            rw [if_neg (by show ¬ tJune S.2.1.1 i0 (stepP b n (stepP b n S)).1.2.2.2 = true; rw [hnt]; decide)]
            rfl
          refine BD.mk hLQ (by omega) hRR ht6 ?_ (K6 31 (by decide)) (K6 32 (by decide)) (K6 20 (by decide)) rfl rfl rfl
          have e6 : s6.2.1 = uA s.2.1 6 (12 + J) r := by rw [f6.1]; show uA s3.2.1 6 (12 + J) r = _; rw [f3.1]
          show relT _ (upF (uA (uA s6.2.1 7 (12 + J) r2) 3 (8 + 1) (nI (J + 1))))
          rw [e6, upF_uJ (k := 3) (i := 1) (j := 8 + 1) rfl, upF_uJ (k := 7) (i := J) (j := 12 + J) rfl, upF_uJ (k := 6) (i := J) (j := 12 + J) rfl, hok.2.1.1, hr2]
          exact relT_june g1 hJ8 hJ12 (by show i0 < nat (s.2.1 3 8); rw [hnm.2.1, nat_nI (by have := hnm.1; omega)]; exact hiP) ⟨x60, hx⟩ hnt
    | succ k ih =>
      intro i s2 hik hfr hQ
      rcases hQ with hQ | ⟨hs2, hok, hnd⟩
      · skip
        refine MV.iload_n dX12_juneLine_22 rfl ?_
        refine MV.iload_n dX12_juneLine_23 rfl ?_
        refine MV.icmp_ge 81 dX12_juneLine_24 (by decide) (fun z => absurd z (nI_ge (by omega) (by omega))) (fun _ => ?_)
        refine MV.aload_n dX12_juneLine_27 rfl ?_
        refine MV.getf 27 fl_X12_202 dX12_juneLine_28 (by decide) rfl ?_
        refine MV.if_ne 75 dX12_juneLine_31 (by decide) (fun _ => ?_) (fun z => absurd z (hQ.ne))
        refine MV.iinc (v := 1) dX12_juneLine_75 rfl (by decide) (by decide) rfl ?_
        refine MV.goto 22 dX12_juneLine_78 (by decide) ?_
        exact MV.weak [some (.ref a), some (.int (nI (12 + J))), some (.int (nI (12 + (i + 1))))] (by simp [leL, sto1, sto2, k2c, nI_1, Nat.add_assoc]) (ih (i + 1) s2 (by omega) hfr (Or.inl hQ))
      · skip
        subst hs2
        refine MV.iload_n dX12_juneLine_22 rfl ?_
        refine MV.iload_n dX12_juneLine_23 rfl ?_
        refine MV.icmp_ge 81 dX12_juneLine_24 (by decide) (fun z => absurd z (nI_ge (by omega) (by omega))) (fun _ => ?_)
        refine MV.aload_n dX12_juneLine_27 rfl ?_
        refine MV.getf 27 fl_X12_202 dX12_juneLine_28 (by decide) rfl ?_
        refine MV.if_ne 75 dX12_juneLine_31 (by decide) (fun z => absurd (hok.2.2.2.2.2.2.1) z) (fun _ => ?_)
        refine MV.aload_n dX12_juneLine_34 rfl ?_
        refine MV.getf 25 fl_X12_167 dX12_juneLine_35 (by decide) rfl ?_
        refine MV.iconst (v := 2) dX12_juneLine_38 (by decide) ?_
        refine MV.icmp_ne 75 dX12_juneLine_39 (by decide) (fun c39 => ?_) (fun c39 => ?_)
        · skip
          refine MV.iinc (v := 1) dX12_juneLine_75 rfl (by decide) (by decide) rfl ?_
          refine MV.goto 22 dX12_juneLine_78 (by decide) ?_
          first
          | (exact MV.weak [some (.ref a), some (.int (nI (12 + J))), some (.int (nI (12 + (i + 1))))] (by simp [leL, sto1, sto2, k2c, nI_1, Nat.add_assoc]) (ih (i + 1) _ (by omega) frK3.rf (Or.inr ⟨rfl, hok, fun j hj => if hji : j = i then by rw [hji]; exact fun z => c39 ((kR_num hok.2.2.1.2.2).mpr z.2.1) else hnd j (by omega)⟩)))
          | (exact MV.weak [some (.ref a), some (.int (nI (12 + J))), some (.int (nI (12 + (i + 1))))] (by simp [leL, sto1, sto2, k2c, nI_1, Nat.add_assoc]) (ih (i + 1) _ (by omega) frK3.rf (Or.inr ⟨rfl, hok, fun j hj => if hji : j = i then by rw [hji]; exact fun z => c54 z.1 else hnd j (by omega)⟩)))
          | (exact MV.weak [some (.ref a), some (.int (nI (12 + J))), some (.int (nI (12 + (i + 1))))] (by simp [leL, sto1, sto2, k2c, nI_1, Nat.add_assoc]) (ih (i + 1) _ (by omega) frK3.rf (Or.inr ⟨rfl, hok, fun j hj => if hji : j = i then by rw [hji]; exact fun z => c67 z.2.2 else hnd j (by omega)⟩)))
          | (exact MV.weak [some (.ref a), some (.int (nI (12 + J))), some (.int (nI (12 + (i + 1))))] (by simp [leL, sto1, sto2, k2c, nI_1, Nat.add_assoc]) (ih (i + 1) _ (by omega) frK3.rf.w (Or.inl (hdup i (by omega) hok ((kR_num hok.2.2.1.2.2).mp c39) c54 c67))))
        · skip
          refine MV.aload_n dX12_juneLine_42 rfl ?_
          refine MV.getf 6 fl_X12_22 dX12_juneLine_43 (by decide) rfl ?_
          refine MV.iload_n dX12_juneLine_46 rfl ?_
          refine MV.ald C12_in6 dX12_juneLine_47 (rfl) (by omega) (by decide) ?_
          refine MV.aload_n dX12_juneLine_48 rfl ?_
          refine MV.getf 6 fl_X12_22 dX12_juneLine_49 (by decide) rfl ?_
          refine MV.iload_n dX12_juneLine_52 rfl ?_
          refine MV.ald C12_in6 dX12_juneLine_53 (rfl) (by omega) (by decide) ?_
          refine MV.icmp_ne 75 dX12_juneLine_54 (by decide) (fun c54 => ?_) (fun c54 => ?_)
          · skip
            refine MV.iinc (v := 1) dX12_juneLine_75 rfl (by decide) (by decide) rfl ?_
            refine MV.goto 22 dX12_juneLine_78 (by decide) ?_
            first
            | (exact MV.weak [some (.ref a), some (.int (nI (12 + J))), some (.int (nI (12 + (i + 1))))] (by simp [leL, sto1, sto2, k2c, nI_1, Nat.add_assoc]) (ih (i + 1) _ (by omega) frK3.rf (Or.inr ⟨rfl, hok, fun j hj => if hji : j = i then by rw [hji]; exact fun z => c39 ((kR_num hok.2.2.1.2.2).mpr z.2.1) else hnd j (by omega)⟩)))
            | (exact MV.weak [some (.ref a), some (.int (nI (12 + J))), some (.int (nI (12 + (i + 1))))] (by simp [leL, sto1, sto2, k2c, nI_1, Nat.add_assoc]) (ih (i + 1) _ (by omega) frK3.rf (Or.inr ⟨rfl, hok, fun j hj => if hji : j = i then by rw [hji]; exact fun z => c54 z.1 else hnd j (by omega)⟩)))
            | (exact MV.weak [some (.ref a), some (.int (nI (12 + J))), some (.int (nI (12 + (i + 1))))] (by simp [leL, sto1, sto2, k2c, nI_1, Nat.add_assoc]) (ih (i + 1) _ (by omega) frK3.rf (Or.inr ⟨rfl, hok, fun j hj => if hji : j = i then by rw [hji]; exact fun z => c67 z.2.2 else hnd j (by omega)⟩)))
            | (exact MV.weak [some (.ref a), some (.int (nI (12 + J))), some (.int (nI (12 + (i + 1))))] (by simp [leL, sto1, sto2, k2c, nI_1, Nat.add_assoc]) (ih (i + 1) _ (by omega) frK3.rf.w (Or.inl (hdup i (by omega) hok ((kR_num hok.2.2.1.2.2).mp c39) c54 c67))))
          · skip
            refine MV.aload_n dX12_juneLine_57 rfl ?_
            refine MV.getf 7 fl_X12_25 dX12_juneLine_58 (by decide) rfl ?_
            refine MV.iload_n dX12_juneLine_61 rfl ?_
            refine MV.ald C12_in7 dX12_juneLine_62 (rfl) (by omega) (by decide) ?_
            refine MV.aload_n dX12_juneLine_63 rfl ?_
            refine MV.getf 26 fl_X12_177 dX12_juneLine_64 (by decide) rfl ?_
            refine MV.icmp_ne 75 dX12_juneLine_67 (by decide) (fun c67 => ?_) (fun c67 => ?_)
            · skip
              refine MV.iinc (v := 1) dX12_juneLine_75 rfl (by decide) (by decide) rfl ?_
              refine MV.goto 22 dX12_juneLine_78 (by decide) ?_
              first
              | (exact MV.weak [some (.ref a), some (.int (nI (12 + J))), some (.int (nI (12 + (i + 1))))] (by simp [leL, sto1, sto2, k2c, nI_1, Nat.add_assoc]) (ih (i + 1) _ (by omega) frK3.rf (Or.inr ⟨rfl, hok, fun j hj => if hji : j = i then by rw [hji]; exact fun z => c39 ((kR_num hok.2.2.1.2.2).mpr z.2.1) else hnd j (by omega)⟩)))
              | (exact MV.weak [some (.ref a), some (.int (nI (12 + J))), some (.int (nI (12 + (i + 1))))] (by simp [leL, sto1, sto2, k2c, nI_1, Nat.add_assoc]) (ih (i + 1) _ (by omega) frK3.rf (Or.inr ⟨rfl, hok, fun j hj => if hji : j = i then by rw [hji]; exact fun z => c54 z.1 else hnd j (by omega)⟩)))
              | (exact MV.weak [some (.ref a), some (.int (nI (12 + J))), some (.int (nI (12 + (i + 1))))] (by simp [leL, sto1, sto2, k2c, nI_1, Nat.add_assoc]) (ih (i + 1) _ (by omega) frK3.rf (Or.inr ⟨rfl, hok, fun j hj => if hji : j = i then by rw [hji]; exact fun z => c67 z.2.2 else hnd j (by omega)⟩)))
              | (exact MV.weak [some (.ref a), some (.int (nI (12 + J))), some (.int (nI (12 + (i + 1))))] (by simp [leL, sto1, sto2, k2c, nI_1, Nat.add_assoc]) (ih (i + 1) _ (by omega) frK3.rf.w (Or.inl (hdup i (by omega) hok ((kR_num hok.2.2.1.2.2).mp c39) c54 c67))))
            · skip
              refine MV.aload_n dX12_juneLine_70 rfl ?_
              refine MV.iconst (v := 3) dX12_juneLine_71 (by decide) ?_
              refine MV.cV1 yoX12_wrong ml_X12_211 im_X12_wrong se_X12_wrong dX12_juneLine_72 rfl (Nat.le_of_ble_eq_true rfl) (by omega) rfl (Nat.le_of_ble_eq_true rfl) (wrong0_M (by omega) hok.2.2.2.2.2.2.1) ?_
              rintro _ _ ⟨rfl, rfl⟩
              refine MV.iinc (v := 1) dX12_juneLine_75 rfl (by decide) (by decide) rfl ?_
              refine MV.goto 22 dX12_juneLine_78 (by decide) ?_
              first
              | (exact MV.weak [some (.ref a), some (.int (nI (12 + J))), some (.int (nI (12 + (i + 1))))] (by simp [leL, sto1, sto2, k2c, nI_1, Nat.add_assoc]) (ih (i + 1) _ (by omega) frK3.rf (Or.inr ⟨rfl, hok, fun j hj => if hji : j = i then by rw [hji]; exact fun z => c39 ((kR_num hok.2.2.1.2.2).mpr z.2.1) else hnd j (by omega)⟩)))
              | (exact MV.weak [some (.ref a), some (.int (nI (12 + J))), some (.int (nI (12 + (i + 1))))] (by simp [leL, sto1, sto2, k2c, nI_1, Nat.add_assoc]) (ih (i + 1) _ (by omega) frK3.rf (Or.inr ⟨rfl, hok, fun j hj => if hji : j = i then by rw [hji]; exact fun z => c54 z.1 else hnd j (by omega)⟩)))
              | (exact MV.weak [some (.ref a), some (.int (nI (12 + J))), some (.int (nI (12 + (i + 1))))] (by simp [leL, sto1, sto2, k2c, nI_1, Nat.add_assoc]) (ih (i + 1) _ (by omega) frK3.rf (Or.inr ⟨rfl, hok, fun j hj => if hji : j = i then by rw [hji]; exact fun z => c67 z.2.2 else hnd j (by omega)⟩)))
              | (exact MV.weak [some (.ref a), some (.int (nI (12 + J))), some (.int (nI (12 + (i + 1))))] (by simp [leL, sto1, sto2, k2c, nI_1, Nat.add_assoc]) (ih (i + 1) _ (by omega) frK3.rf.w (Or.inl (hdup i (by omega) hok ((kR_num hok.2.2.1.2.2).mp c39) c54 c67))))
  refine MV.weak [some (.ref a), some (.int (nI (12 + J))), some (.int (nI (12 + 0)))] (by simp [leL, sto1, sto2, k2c]) (hloop J 0 _ (by omega) frK3.rf ?_)
  rcases hD3 with hD3 | ⟨hR3, ⟨i, hi, hri, hfi⟩, ht3⟩
  · exact Or.inl hD3
  · have hii : i0 = i := by rw [hi0, hfi]; exact nat_nI (by have := hnm.1; omega)
    exact Or.inr ⟨rfl, ⟨by rw [hR3, hi0]; rfl, ⟨by rw [hii]; exact hri, by have := hnm.1; omega⟩, ht3⟩, fun j hj => by omega⟩
