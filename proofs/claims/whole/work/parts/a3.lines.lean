/-! Lines: man, light, blow, draft, seed of the model -/
theorem upF_uJ {f : Nat → Nat → Int32} {k i j : Nat} {v : Int32} (h : j = hl k + i) : upF (uA f k j v) = uA (upF f) k i v := by rw [h]; exact upF_uA
theorem lP_0 {b : Nat → Int32} {n : Nat} {S : PS} (h : S.1.2.1 = nI 0) : lineP b n S = rPers b n S := if_pos h
theorem lP_1 {b : Nat → Int32} {n : Nat} {S : PS} (h : S.1.2.1 = nI 1) : lineP b n S = rJune b n S := by unfold lineP; rw [if_neg (by rw [h]; decide), if_pos (show S.1.2.1 = (1 : Int32) from h)]
theorem lP_2 {b : Nat → Int32} {n : Nat} {S : PS} (h : S.1.2.1 = nI 2) : lineP b n S = rLight b n S := by unfold lineP; rw [if_neg (by rw [h]; decide), if_neg (by rw [h]; decide), if_pos (show S.1.2.1 = (2 : Int32) from h)]
theorem lP_3 {b : Nat → Int32} {n : Nat} {S : PS} (h : S.1.2.1 = nI 3) : lineP b n S = rBlow b n S := by unfold lineP; rw [if_neg (by rw [h]; decide), if_neg (by rw [h]; decide), if_neg (by rw [h]; decide), if_pos (show S.1.2.1 = (3 : Int32) from h)]
theorem lP_4 {b : Nat → Int32} {n : Nat} {S : PS} (h : S.1.2.1 = nI 4) : lineP b n S = rLend b n S := by unfold lineP; rw [if_neg (by rw [h]; decide), if_neg (by rw [h]; decide), if_neg (by rw [h]; decide), if_neg (by rw [h]; decide), if_pos (show S.1.2.1 = (4 : Int32) from h)]
theorem lP_5 {b : Nat → Int32} {n : Nat} {S : PS} (h : S.1.2.1 = nI 5) : lineP b n S = rDraft b n S := by unfold lineP; rw [if_neg (by rw [h]; decide), if_neg (by rw [h]; decide), if_neg (by rw [h]; decide), if_neg (by rw [h]; decide), if_neg (by rw [h]; decide), if_pos (show S.1.2.1 = (5 : Int32) from h)]
theorem lP_6 {b : Nat → Int32} {n : Nat} {S : PS} (h : S.1.2.1 = nI 6) : lineP b n S = rSeed b n S := by unfold lineP; rw [if_neg (by rw [h]; decide), if_neg (by rw [h]; decide), if_neg (by rw [h]; decide), if_neg (by rw [h]; decide), if_neg (by rw [h]; decide), if_neg (by rw [h]; decide), if_pos (show S.1.2.1 = (6 : Int32) from h)]
theorem lP_7 {b : Nat → Int32} {n : Nat} {S : PS} (h : S.1.2.1 = nI 7) : lineP b n S = rLaw b n S := by unfold lineP; rw [if_neg (by rw [h]; decide), if_neg (by rw [h]; decide), if_neg (by rw [h]; decide), if_neg (by rw [h]; decide), if_neg (by rw [h]; decide), if_neg (by rw [h]; decide), if_neg (by rw [h]; decide), if_pos (show S.1.2.1 = (7 : Int32) from h)]
/-- what holds behind the first word of a LINE -/
def LQ (b : Nat → Int32) (n : Nat) (S : PS) (s0 s : St) (w : Nat) : Prop := frP s0 s ∧ s.1 21 = s0.1 21 ∧ s.1 20 = (s0.1 20 ||| (1 <<< (nI w &&& 31))) ∧ relM n s S ∧ tkS b n s (tokN b n S.1) ∧ tdR S.2.1 (s0.1 20)
theorem LQ.of {b : Nat → Int32} {n : Nat} {S : PS} {s s2 : St} {w : Nat} (h : relP b n s S) (k : frK2 (mI s 20 (s.1 20 ||| (1 <<< (nI w &&& 31)))) s2) (t : tkS b n s2 (tokN b n S.1)) : LQ b n S s s2 w := by
  refine ⟨(frP.rf.i (by decide)).k2 k, (k.2 21 (by decide) (by decide) (by decide) (by decide)).trans rfl, (k.2 20 (by decide) (by decide) (by decide) (by decide)).trans rfl, ?_, t, h.2.2⟩
  exact h.2.1.same (k.1.trans rfl) ((k.2 31 (by decide) (by decide) (by decide) (by decide)).trans rfl) ((k.2 32 (by decide) (by decide) (by decide) (by decide)).trans rfl)
theorem tdR.same {T T2 : Tx} {x : Int32} {w : Nat} (h : tdR T x) (hw : w < 5 ∨ w = 7) (h12 : T2.1.1 12 = T.1.1 12) (h13 : T2.1.1 13 = T.1.1 13) (hL : T2.2.2.2 = T.2.2.2) : tdR T2 (x ||| (1 <<< (nI w &&& 31))) := by
  obtain ⟨h1, h2, h3⟩ := h
  refine ⟨?_, ?_, fun k hk => ?_⟩
  · rw [bt_or, bt_1 w (by omega) 5 (by omega), h1, h12, decide_eq_false (show ¬ 5 = w by omega), Bool.or_false]
  · rw [bt_or, bt_1 w (by omega) 6 (by omega), h2, h13, decide_eq_false (show ¬ 6 = w by omega), Bool.or_false]
  · rw [bt_or, bt_1 w (by omega) (16 + k) (by omega), h3 k hk, hL, decide_eq_false (show ¬ 16 + k = w by omega), Bool.or_false]
theorem tdR.draft {T : Tx} {x v : Int32} (h : tdR T x) : tdR ((upd (upd T.1.1 12 1) 10 v, T.1.2), T.2) (x ||| (1 <<< (nI 5 &&& 31))) := by
  obtain ⟨h1, h2, h3⟩ := h
  refine ⟨?_, ?_, fun k hk => ?_⟩
  · rw [bt_or, bt_1 5 (by omega) 5 (by omega), decide_eq_true (show 5 = 5 from rfl), Bool.or_true]; rfl
  · rw [bt_or, bt_1 5 (by omega) 6 (by omega), h2, decide_eq_false (show ¬ 6 = 5 by omega), Bool.or_false]; rfl
  · rw [bt_or, bt_1 5 (by omega) (16 + k) (by omega), h3 k hk, decide_eq_false (show ¬ 16 + k = 5 by omega), Bool.or_false]
theorem tdR.seed {T : Tx} {x v : Int32} (h : tdR T x) : tdR ((upd (upd T.1.1 13 1) 11 v, T.1.2), T.2) (x ||| (1 <<< (nI 6 &&& 31))) := by
  obtain ⟨h1, h2, h3⟩ := h
  refine ⟨?_, ?_, fun k hk => ?_⟩
  · rw [bt_or, bt_1 6 (by omega) 5 (by omega), h1, decide_eq_false (show ¬ 5 = 6 by omega), Bool.or_false]; rfl
  · rw [bt_or, bt_1 6 (by omega) 6 (by omega), decide_eq_true (show 6 = 6 from rfl), Bool.or_true]; rfl
  · rw [bt_or, bt_1 6 (by omega) (16 + k) (by omega), h3 k hk, decide_eq_false (show ¬ 16 + k = 6 by omega), Bool.or_false]
theorem nmR.of {T : Tx} {s : St} (h : relT T (upF s.2.1)) : nmR T s (nat (T.1.1 0)) := by
  obtain ⟨n1, n2, n3⟩ := h.1
  have h8 : upF s.2.1 3 0 = s.2.1 3 8 := rfl
  rw [h8] at n1 n2 n3
  have e0 : T.1.1 0 = nI (nat (T.1.1 0)) := by rw [n2]; exact n1.1
  refine ⟨by rw [n2]; have := n1.2; omega, by rw [n2]; exact n1.1, e0, fun p hp => ?_⟩
  rw [n2] at hp
  exact (n3 p hp).1
theorem cnt_of {x : Int32} {b : Nat} (h : okN x b) {c : Nat} (hc : c + 1 = b) (hb : b < 100) (hx : decide (x = nI c) = false) : nat x < c := by
  have := h.2
  have h2 : ¬ nat x = c := fun z => by
    have : x = nI c := by rw [h.1, z]
    rw [decide_eq_true this] at hx
    cases hx
  omega
theorem cnt_is {x : Int32} {b : Nat} (h : okN x b) {c : Nat} (hb : b < 100) (hx : decide (x = nI c) = true) (hc : c < 100) : nat x = c := by
  have : x = nI c := of_decide_eq_true hx
  rw [this]
  exact nat_nI (by omega)
theorem okN_le {q : Tk} {l u : Nat} (h : numOk q (nI l) (nI u)) (hl : l ≤ 99999) (hu : u ≤ 99999) : okN q.2.2.2 (u + 1) := by
  have h0 : ¬ q.2.2.2 < 0 := fun z => h.2.1 (Int32.lt_of_lt_of_le z (show nI 0 ≤ nI l from nI_le (by omega) (by omega)))
  obtain ⟨j, hj, hq⟩ := nI_of h0
  have h3 := h.2.2
  rw [hq] at h3 ⊢
  have := (nI_leI hj (by omega)).mp h3
  exact okN.of rfl (by omega) (by omega)
set_option maxRecDepth 100000 in
set_option maxHeartbeats 8000000 in
theorem lineMan_M {d n0 a : Nat} {κ : Kd} {h0 : Hp} (hd : 12 ≤ d) {b : Nat → Int32} {n : Nat} (hn : n ≤ 700) (hbb : ∀ k, k < n → ¬ b k = -1 ∧ b k < 256) {s0 s : St} {S : PS} (h : LQ b n S s0 s 0) (hk : S.1.2.1 = nI 0) (hfull : decide (s.2.1 3 8 = nI 6) = false) : MV MX12_line (d, 0, 0, n0, κ) a h0 s 95 [some (.ref a), some (.int (nI 0)), none, none, none] [] (LPo b n S s0) := by
  obtain ⟨hf, h21, h20, hM, ht, htd⟩ := h
  obtain ⟨g1, g2, g3, g4, g5, g6, g7⟩ := id hM
  obtain ⟨P, hPe⟩ : ∃ P, P = nat (S.2.1.1.1 0) := ⟨_, rfl⟩
  have hnm : nmR (stepP b n S).2.1 s P := by rw [hPe]; exact nmR.of g1
  have hP8 : s.2.1 3 8 = nI P := hnm.2.1
  have hP6 : P < 6 := by
    have := cnt_of (c := 6) (b := 7) g1.1.1 (by omega) (by omega) hfull
    rw [show (upF s.2.1) 3 0 = s.2.1 3 8 from rfl, hP8, nat_nI (by have := hnm.1; omega)] at this
    exact this
  have hR : lineP b n S = bindP (nextP (-4) (stepP b n S)) (rPers1 b n) := by
    rw [lP_0 hk]
    unfold rPers
    rw [if_pos]
    rw [show S.2.1.1.1 0 = nI P from hnm.2.2.1]
    exact nI_lt (b := 6) hP6 (by decide)
  refine MV.iload_n dX12_line_95 rfl ?_
  refine MV.tswG [(0, 140), (1, 198), (2, 205), (3, 264), (4, 327), (5, 334), (6, 349)] 365 dX12_line_96 (by decide) (by decide +kernel) (fa_cons (fun cs96 => ?_) (fa_cons (fun cs96 => ?_) (fa_cons (fun cs96 => ?_) (fa_cons (fun cs96 => ?_) (fa_cons (fun cs96 => ?_) (fa_cons (fun cs96 => ?_) (fa_cons (fun cs96 => ?_) fa_nil))))))) (fun co96 => ?_)
  · skip
    refine MV.bipush (v := 6) dX12_line_140 (by decide) ?_
    refine MV.aload_n dX12_line_142 rfl ?_
    refine MV.iconst (v := nI 0) dX12_line_143 (by decide) ?_
    refine MV.cV1 yoX12_fresher ml_X12_218 im_X12_fresher se_X12_fresher dX12_line_144 rfl (Nat.le_of_ble_eq_true rfl) (by omega) rfl (Nat.le_of_ble_eq_true rfl) (fresher_M (k := 0) (by omega) (by omega)) (MV.rdK ?_)
    refine MV.eqi (nI P) (hP8) ?_
    refine MV.iadd dX12_line_147 ?_
    refine MV.eqi (nI (6 + P)) (nI_add 6 P) ?_
    refine MV.istore_n dX12_line_148 (by decide) rfl ?_
    refine MV.aload_n dX12_line_149 rfl ?_
    refine MV.getf 4 fl_X12_16 dX12_line_150 (by decide) rfl ?_
    refine MV.iload_n dX12_line_153 rfl ?_
    refine MV.aload_n dX12_line_154 rfl ?_
    refine MV.aload_n dX12_line_155 rfl ?_
    refine MV.getf 4 fl_X12_16 dX12_line_156 (by decide) rfl ?_
    refine MV.bipush (v := nI 6) dX12_line_159 (by decide) ?_
    refine MV.aload_n dX12_line_161 rfl ?_
    refine MV.iconst (v := nI 0) dX12_line_162 (by decide) ?_
    refine MV.cV1 yoX12_fresher ml_X12_218 im_X12_fresher se_X12_fresher dX12_line_163 rfl (Nat.le_of_ble_eq_true rfl) (by omega) rfl (Nat.le_of_ble_eq_true rfl) (fresher_M (k := 0) (by omega) (by omega)) (MV.rdK ?_)
    refine MV.eqi (nI P) (hP8) ?_
    refine MV.cV3 yoX12_fresh ml_X12_234 im_X12_fresh se_X12_fresh dX12_line_166 rfl (Nat.le_of_ble_eq_true rfl) (by omega) rfl (Nat.le_of_ble_eq_true rfl) (freshD_M (S := (stepP b n S)) (P := P) (by omega) hn hbb hnm (Or.inr ⟨hR, ht⟩)) ?_
    rintro _ s3 ⟨r, rfl, f3, hD3⟩
    refine MV.ast C12_in4 dX12_line_169 (rfl) (by omega) (by decide) ?_
    refine MV.aload_n dX12_line_170 rfl ?_
    refine MV.getf 5 fl_X12_19 dX12_line_171 (by decide) rfl ?_
    refine MV.iload_n dX12_line_174 rfl ?_
    refine MV.aload_n dX12_line_175 rfl ?_
    refine MV.iconst (v := nI 1) dX12_line_176 (by decide) ?_
    refine MV.bipush (v := nI 60) dX12_line_177 (by decide) ?_
    refine MV.cV2 yoX12_numeral ml_X12_238 im_X12_numeral se_X12_numeral dX12_line_179 rfl (Nat.le_of_ble_eq_true rfl) (by omega) rfl (Nat.le_of_ble_eq_true rfl) (numeralD_M (s := mA s3 4 (6 + P) r) (S := (stepP b n (stepP b n S))) (l := 1) (u := 60) (k := rPers2 b n (stepP b n S).1.2.2.2) (by omega) hn hbb (by omega) (by omega) (hD3.imp id (fun z => ⟨z.1, z.2.2⟩))) ?_
    rintro _ s4 ⟨r2, rfl, f4, hD4⟩
    refine MV.ast C12_in5 dX12_line_182 (rfl) (by omega) (by decide) ?_
    refine MV.aload_n dX12_line_183 rfl ?_
    refine MV.iconst (v := nI 0) dX12_line_184 (by decide) ?_
    refine MV.aload_n dX12_line_185 rfl ?_
    refine MV.iconst (v := nI 0) dX12_line_186 (by decide) ?_
    refine MV.cV1 yoX12_fresher ml_X12_218 im_X12_fresher se_X12_fresher dX12_line_187 rfl (Nat.le_of_ble_eq_true rfl) (by omega) rfl (Nat.le_of_ble_eq_true rfl) (fresher_M (s := mA s4 5 (6 + P) r2) (k := 0) (by omega) (by omega)) (MV.rdK ?_)
    refine MV.eqi (nI P) (by show s4.2.1 3 8 = _; rw [f4.1]; show s3.2.1 3 8 = _; rw [f3.1]; exact hP8) ?_
    refine MV.iconst (v := 1) dX12_line_190 (by decide) ?_
    refine MV.iadd dX12_line_191 ?_
    refine MV.eqi (nI (P + 1)) (nI_1 P) ?_
    refine MV.cV2 yoX12_reads ml_X12_242 im_X12_reads se_X12_reads dX12_line_192 rfl (Nat.le_of_ble_eq_true rfl) (by omega) rfl (Nat.le_of_ble_eq_true rfl) (reads_M (s := mA s4 5 (6 + P) r2) (k := 0) (v := nI (P + 1)) (by omega) (by omega)) ?_
    rintro _ _ ⟨rfl, rfl⟩
    refine MV.goto 369 dX12_line_195 (by decide) ?_
    refine MV.weak [some (.ref a), none, none, none, none] (by simp [leL, sto1, sto2, k2c]) (lineEnd_M (by omega) hn hbb ?_ ?_ ?_)
    · exact ((((hf.k3 f3).a (k := 4) (by decide) (by decide) (by show 6 ≤ 6 + P; omega)).k3 f4).a (k := 5) (by decide) (by decide) (by show 6 ≤ 6 + P; omega)).a (k := 3) (by decide) (by decide) (by decide)
    · exact (f4.2 21 (by decide) (by decide) (by decide) (by decide) (by decide) (by decide)).trans ((f3.2 21 (by decide) (by decide) (by decide) (by decide) (by decide) (by decide)).trans h21)
    · rcases hD4 with hD4 | ⟨hR4, hr2, hok, ht4⟩
      · exact Or.inl hD4
      · refine Or.inr ?_
        rcases hD3 with hD3 | ⟨-, hr, -⟩
        · exact absurd (show true = false from (by have := hD3.1; rw [hR4] at this; exact this)) (by decide)
        · have e4 : s4.2.1 = uA s.2.1 4 (6 + P) r := by rw [f4.1]; show uA s3.2.1 4 (6 + P) r = _; rw [f3.1]
          have hT := relT_man (x := r) (l := r2) g1 hP8 hP6 (by rw [hr2]; exact okN_le hok (by decide) (by decide))
          have hok2 := okS_line (b := b) g7 (by rw [hR4]; rfl)
          rw [hR4] at hok2 ⊢
          refine ⟨rfl, ht4, ⟨?_, ?_, ?_, g4, g5, g6, hok2⟩, ?_⟩
          · show relT (tAdd S.2.1.1 (nat (S.2.1.1.1 0)) (stepP b n S).1.2.2.2 (stepP b n (stepP b n S)).1.2.2.2, S.2.1.2) (upF (uA (uA s4.2.1 5 (6 + P) r2) 3 (8 + 0) (nI (P + 1))))
            rw [e4, upF_uJ (k := 3) (i := 0) (j := 8 + 0) rfl, upF_uJ (k := 5) (i := P) (j := 6 + P) rfl, upF_uJ (k := 4) (i := P) (j := 6 + P) rfl, ← hPe, ← hr, ← hr2]
            exact hT
          · exact (f4.2 31 (by decide) (by decide) (by decide) (by decide) (by decide) (by decide)).trans ((f3.2 31 (by decide) (by decide) (by decide) (by decide) (by decide) (by decide)).trans g2)
          · exact (f4.2 32 (by decide) (by decide) (by decide) (by decide) (by decide) (by decide)).trans ((f3.2 32 (by decide) (by decide) (by decide) (by decide) (by decide) (by decide)).trans g3)
          · have e20 : s4.1 20 = s0.1 20 ||| (1 <<< (nI 0 &&& 31)) := (f4.2 20 (by decide) (by decide) (by decide) (by decide) (by decide) (by decide)).trans ((f3.2 20 (by decide) (by decide) (by decide) (by decide) (by decide) (by decide)).trans h20)
            show tdR _ (s4.1 20)
            rw [e20]
            exact htd.same (by omega) rfl rfl rfl
  · skip
    exact absurd cs96 (by decide) --done
  · skip
    exact absurd cs96 (by decide) --done
  · skip
    exact absurd cs96 (by decide) --done
  · skip
    exact absurd cs96 (by decide) --done
  · skip
    exact absurd cs96 (by decide) --done
  · skip
    exact absurd cs96 (by decide) --done
  · skip
    exact absurd rfl (co96 (0, 140) (by simp)) --done
set_option maxRecDepth 100000 in
set_option maxHeartbeats 8000000 in
theorem lineLight_M {d n0 a : Nat} {κ : Kd} {h0 : Hp} (hd : 12 ≤ d) {b : Nat → Int32} {n : Nat} (hn : n ≤ 700) (hbb : ∀ k, k < n → ¬ b k = -1 ∧ b k < 256) {s0 s : St} {S : PS} (h : LQ b n S s0 s 2) (hk : S.1.2.1 = nI 2) (hfull : decide (s.2.1 3 10 = nI 12) = false) : MV MX12_line (d, 0, 0, n0, κ) a h0 s 95 [some (.ref a), some (.int (nI 2)), none, none, none] [] (LPo b n S s0) := by
  obtain ⟨hf, h21, h20, hM, ht, htd⟩ := h
  obtain ⟨g1, g2, g3, g4, g5, g6, g7⟩ := id hM
  obtain ⟨P, hPe⟩ : ∃ P, P = nat (S.2.1.1.1 0) := ⟨_, rfl⟩
  have hnm : nmR (stepP b n S).2.1 s P := by rw [hPe]; exact nmR.of g1
  have hrd : okN (s.2.1 3 10) 13 ∧ S.2.1.2.1.1 0 = s.2.1 3 10 := ⟨g1.2.2.1.1, g1.2.2.1.2.1⟩
  obtain ⟨z, hze⟩ : ∃ z, z = nat (S.2.1.2.1.1 0) := ⟨_, rfl⟩
  have hz8 : s.2.1 3 10 = nI z := by rw [hze, hrd.2]; exact hrd.1.1
  have hz12 : z < 12 := by rw [hze, hrd.2]; exact cnt_of (c := 12) (b := 13) hrd.1 (by omega) (by omega) hfull
  have hR : lineP b n S = bindP (persP (stepP b n S)) (rLight1 b n) := by
    rw [lP_2 hk]
    unfold rLight
    rw [if_neg]
    unfold dFull
    rw [hrd.2, hz8, g5, decide_eq_false (fun z => z (nI_lt (b := 12) hz12 (by decide)))]
    decide
  refine MV.iload_n dX12_line_95 rfl ?_
  refine MV.tswG [(0, 140), (1, 198), (2, 205), (3, 264), (4, 327), (5, 334), (6, 349)] 365 dX12_line_96 (by decide) (by decide +kernel) (fa_cons (fun cs96 => ?_) (fa_cons (fun cs96 => ?_) (fa_cons (fun cs96 => ?_) (fa_cons (fun cs96 => ?_) (fa_cons (fun cs96 => ?_) (fa_cons (fun cs96 => ?_) (fa_cons (fun cs96 => ?_) fa_nil))))))) (fun co96 => ?_)
  · skip
    exact absurd cs96 (by decide) --done
  · skip
    exact absurd cs96 (by decide) --done
  · skip
    refine MV.bipush (v := 12) dX12_line_205 (by decide) ?_
    refine MV.aload_n dX12_line_207 rfl ?_
    refine MV.iconst (v := nI 2) dX12_line_208 (by decide) ?_
    refine MV.cV1 yoX12_fresher ml_X12_218 im_X12_fresher se_X12_fresher dX12_line_209 rfl (Nat.le_of_ble_eq_true rfl) (by omega) rfl (Nat.le_of_ble_eq_true rfl) (fresher_M (k := 2) (by omega) (by omega)) (MV.rdK ?_)
    refine MV.eqi (nI z) (hz8) ?_
    refine MV.iadd dX12_line_212 ?_
    refine MV.eqi (nI (12 + z)) (nI_add 12 z) ?_
    refine MV.istore_n dX12_line_213 (by decide) rfl ?_
    refine MV.aload_n dX12_line_214 rfl ?_
    refine MV.getf 8 fl_X12_28 dX12_line_215 (by decide) rfl ?_
    refine MV.iload_n dX12_line_218 rfl ?_
    refine MV.aload_n dX12_line_219 rfl ?_
    refine MV.cV0 yoX12_manAhead ml_X12_249 im_X12_manAhead se_X12_manAhead dX12_line_220 rfl (Nat.le_of_ble_eq_true rfl) (by omega) rfl (Nat.le_of_ble_eq_true rfl) (manAheadD_M (S := (stepP b n S)) (P := P) (k := rLight1 b n) (by omega) hn hbb hnm (Or.inr ⟨hR, ht⟩)) ?_
    rintro _ s3 ⟨r, rfl, f3, hD3⟩
    refine MV.ast C12_in8 dX12_line_223 (rfl) (by omega) (by decide) ?_
    refine MV.aload_n dX12_line_224 rfl ?_
    refine MV.getf 9 fl_X12_31 dX12_line_225 (by decide) rfl ?_
    refine MV.iload_n dX12_line_228 rfl ?_
    refine MV.aload_n dX12_line_229 rfl ?_
    refine MV.iconst (v := nI 0) dX12_line_230 (by decide) ?_
    refine MV.iconst (v := nI 1) dX12_line_231 (by decide) ?_
    refine MV.cV2 yoX12_numeral ml_X12_238 im_X12_numeral se_X12_numeral dX12_line_232 rfl (Nat.le_of_ble_eq_true rfl) (by omega) rfl (Nat.le_of_ble_eq_true rfl) (numeralD_M (s := mA s3 8 (12 + z) r) (S := (stepP b n (stepP b n S))) (l := 0) (u := 1) (k := rLight2 b n (nat (findP (stepP b n S)))) (by omega) hn hbb (by omega) (by omega) (hD3.imp id (fun z => ⟨z.1, z.2.2⟩))) ?_
    rintro _ s4 ⟨r2, rfl, f4, hD4⟩
    refine MV.ast C12_in9 dX12_line_235 (rfl) (by omega) (by decide) ?_
    refine MV.aload_n dX12_line_236 rfl ?_
    refine MV.getf 10 fl_X12_34 dX12_line_237 (by decide) rfl ?_
    refine MV.iload_n dX12_line_240 rfl ?_
    refine MV.aload_n dX12_line_241 rfl ?_
    refine MV.iconst (v := nI 0) dX12_line_242 (by decide) ?_
    refine MV.bipush (v := nI 99) dX12_line_243 (by decide) ?_
    refine MV.cV2 yoX12_numeral ml_X12_238 im_X12_numeral se_X12_numeral dX12_line_245 rfl (Nat.le_of_ble_eq_true rfl) (by omega) rfl (Nat.le_of_ble_eq_true rfl) (numeralD_M (s := mA s4 9 (12 + z) r2) (S := (stepP b n (stepP b n (stepP b n S)))) (l := 0) (u := 99) (k := rLight3 b n (nat (findP (stepP b n S))) (stepP b n (stepP b n S)).1.2.2.2) (by omega) hn hbb (by omega) (by omega) (hD4.imp id (fun z => ⟨z.1, z.2.2.2⟩))) ?_
    rintro _ s5 ⟨r3, rfl, f5, hD5⟩
    have K3 : ∀ j, (j < 23 ∨ 28 < j) → s5.1 j = s.1 j := fun j hj => (f5.2 j (by omega) (by omega) (by omega) (by omega) (by omega) (by omega)).trans ((f4.2 j (by omega) (by omega) (by omega) (by omega) (by omega) (by omega)).trans (f3.2 j (by omega) (by omega) (by omega) (by omega) (by omega) (by omega)))
    refine MV.ast C12_in10 dX12_line_248 (rfl) (by omega) (by decide) ?_
    refine MV.aload_n dX12_line_249 rfl ?_
    refine MV.iconst (v := nI 2) dX12_line_250 (by decide) ?_
    refine MV.aload_n dX12_line_251 rfl ?_
    refine MV.iconst (v := nI 2) dX12_line_252 (by decide) ?_
    refine MV.cV1 yoX12_fresher ml_X12_218 im_X12_fresher se_X12_fresher dX12_line_253 rfl (Nat.le_of_ble_eq_true rfl) (by omega) rfl (Nat.le_of_ble_eq_true rfl) (fresher_M (s := mA s5 10 (12 + z) r3) (k := 2) (by omega) (by omega)) (MV.rdK ?_)
    refine MV.eqi (nI z) (by show s5.2.1 3 10 = _; rw [f5.1]; show s4.2.1 3 10 = _; rw [f4.1]; show s3.2.1 3 10 = _; rw [f3.1]; exact hz8) ?_
    refine MV.iconst (v := 1) dX12_line_256 (by decide) ?_
    refine MV.iadd dX12_line_257 ?_
    refine MV.eqi (nI (z + 1)) (nI_1 z) ?_
    refine MV.cV2 yoX12_reads ml_X12_242 im_X12_reads se_X12_reads dX12_line_258 rfl (Nat.le_of_ble_eq_true rfl) (by omega) rfl (Nat.le_of_ble_eq_true rfl) (reads_M (s := mA s5 10 (12 + z) r3) (k := 2) (v := nI (z + 1)) (by omega) (by omega)) ?_
    rintro _ _ ⟨rfl, rfl⟩
    refine MV.goto 369 dX12_line_261 (by decide) ?_
    refine MV.weak [some (.ref a), none, none, none, none] (by simp [leL, sto1, sto2, k2c]) (lineEnd_M (by omega) hn hbb ?_ ?_ ?_)
    · exact (((((((hf.k3 f3).a (k := 8) (by decide) (by decide) (by show 12 ≤ 12 + z; omega)).k3 f4).a (k := 9) (by decide) (by decide) (by show 12 ≤ 12 + z; omega)).k3 f5).a (k := 10) (by decide) (by decide) (by show 12 ≤ 12 + z; omega))).a (k := 3) (by decide) (by decide) (by show 8 ≤ 8 + 2; omega)
    · exact (K3 21 (by decide)).trans h21
    · rcases hD5 with hD5 | ⟨hR5, hq3, hok3, ht5⟩
      · exact Or.inl hD5
      · refine Or.inr ?_
        rcases hD4 with hD4 | ⟨-, hq2, hok2, -⟩
        · exact absurd (show true = false from (by have := hD4.1; rw [hR5] at this; exact this)) (by decide)
        rcases hD3 with hD3 | ⟨-, ⟨i, hi, hri, hfi⟩, -⟩
        · exact absurd (show true = false from (by have := hD3.1; rw [hR5] at this; exact this)) (by decide)
        have e5 : s5.2.1 = uA (uA s.2.1 8 (12 + z) r) 9 (12 + z) r2 := by rw [f5.1]; show uA s4.2.1 9 (12 + z) r2 = _; rw [f4.1]; show uA (uA s3.2.1 8 (12 + z) r) 9 (12 + z) r2 = _; rw [f3.1]
        have hT := relT_light (x := r) (y := r2) (u := r3) g1 hz8 hz12
        have hok4 := okS_line (b := b) g7 (by rw [hR5]; rfl)
        have hni : nat (findP (stepP b n S)) = i := by rw [hfi]; exact nat_nI (by have := hnm.1; omega)
        rw [hR5, hni] at hok4 ⊢
        refine ⟨rfl, ht5, ⟨?_, (K3 31 (by decide)).trans g2, (K3 32 (by decide)).trans g3, g4, g5, g6, hok4⟩, ?_⟩
        · show relT ((S.2.1.1, dAdd S.2.1.2.1 (nat (S.2.1.2.1.1 0)) (nI i) (stepP b n (stepP b n S)).1.2.2.2 (stepP b n (stepP b n (stepP b n S))).1.2.2.2, S.2.1.2.2)) (upF (uA (uA s5.2.1 10 (12 + z) r3) 3 (8 + 2) (nI (z + 1))))
          rw [e5, upF_uJ (k := 3) (i := 2) (j := 8 + 2) rfl, upF_uJ (k := 10) (i := z) (j := 12 + z) rfl, upF_uJ (k := 9) (i := z) (j := 12 + z) rfl, upF_uJ (k := 8) (i := z) (j := 12 + z) rfl, ← hze, ← hri, ← hq2, ← hq3]
          exact hT
        · show tdR _ (s5.1 20)
          rw [K3 20 (by decide), h20]
          exact htd.same (by omega) rfl rfl rfl
  · skip
    exact absurd cs96 (by decide) --done
  · skip
    exact absurd cs96 (by decide) --done
  · skip
    exact absurd cs96 (by decide) --done
  · skip
    exact absurd cs96 (by decide) --done
  · skip
    exact absurd rfl (co96 (2, 205) (by simp)) --done
set_option maxRecDepth 100000 in
set_option maxHeartbeats 8000000 in
theorem lineBlow_M {d n0 a : Nat} {κ : Kd} {h0 : Hp} (hd : 12 ≤ d) {b : Nat → Int32} {n : Nat} (hn : n ≤ 700) (hbb : ∀ k, k < n → ¬ b k = -1 ∧ b k < 256) {s0 s : St} {S : PS} (h : LQ b n S s0 s 3) (hk : S.1.2.1 = nI 3) (hfull : decide (s.2.1 3 11 = nI 8) = false) : MV MX12_line (d, 0, 0, n0, κ) a h0 s 95 [some (.ref a), some (.int (nI 3)), none, none, none] [] (LPo b n S s0) := by
  obtain ⟨hf, h21, h20, hM, ht, htd⟩ := h
  obtain ⟨g1, g2, g3, g4, g5, g6, g7⟩ := id hM
  obtain ⟨P, hPe⟩ : ∃ P, P = nat (S.2.1.1.1 0) := ⟨_, rfl⟩
  have hnm : nmR (stepP b n S).2.1 s P := by rw [hPe]; exact nmR.of g1
  have hrd : okN (s.2.1 3 11) 9 ∧ S.2.1.2.2.1.1 0 = s.2.1 3 11 := ⟨g1.2.2.2.1.1, g1.2.2.2.1.2.1⟩
  obtain ⟨z, hze⟩ : ∃ z, z = nat (S.2.1.2.2.1.1 0) := ⟨_, rfl⟩
  have hz8 : s.2.1 3 11 = nI z := by rw [hze, hrd.2]; exact hrd.1.1
  have hz12 : z < 8 := by rw [hze, hrd.2]; exact cnt_of (c := 8) (b := 9) hrd.1 (by omega) (by omega) hfull
  have hR : lineP b n S = bindP (persP (stepP b n S)) (rBlow1 b n) := by
    rw [lP_3 hk]
    unfold rBlow
    rw [if_neg]
    unfold dFull
    rw [hrd.2, hz8, g6, decide_eq_false (fun z => z (nI_lt (b := 8) hz12 (by decide)))]
    decide
  refine MV.iload_n dX12_line_95 rfl ?_
  refine MV.tswG [(0, 140), (1, 198), (2, 205), (3, 264), (4, 327), (5, 334), (6, 349)] 365 dX12_line_96 (by decide) (by decide +kernel) (fa_cons (fun cs96 => ?_) (fa_cons (fun cs96 => ?_) (fa_cons (fun cs96 => ?_) (fa_cons (fun cs96 => ?_) (fa_cons (fun cs96 => ?_) (fa_cons (fun cs96 => ?_) (fa_cons (fun cs96 => ?_) fa_nil))))))) (fun co96 => ?_)
  · skip
    exact absurd cs96 (by decide) --done
  · skip
    exact absurd cs96 (by decide) --done
  · skip
    exact absurd cs96 (by decide) --done
  · skip
    refine MV.bipush (v := 8) dX12_line_264 (by decide) ?_
    refine MV.aload_n dX12_line_266 rfl ?_
    refine MV.iconst (v := nI 3) dX12_line_267 (by decide) ?_
    refine MV.cV1 yoX12_fresher ml_X12_218 im_X12_fresher se_X12_fresher dX12_line_268 rfl (Nat.le_of_ble_eq_true rfl) (by omega) rfl (Nat.le_of_ble_eq_true rfl) (fresher_M (k := 3) (by omega) (by omega)) (MV.rdK ?_)
    refine MV.eqi (nI z) (hz8) ?_
    refine MV.iadd dX12_line_271 ?_
    refine MV.eqi (nI (8 + z)) (nI_add 8 z) ?_
    refine MV.istore dX12_line_272 (by decide) rfl ?_
    refine MV.aload_n dX12_line_274 rfl ?_
    refine MV.getf 11 fl_X12_37 dX12_line_275 (by decide) rfl ?_
    refine MV.iload dX12_line_278 rfl ?_
    refine MV.aload_n dX12_line_280 rfl ?_
    refine MV.cV0 yoX12_manAhead ml_X12_249 im_X12_manAhead se_X12_manAhead dX12_line_281 rfl (Nat.le_of_ble_eq_true rfl) (by omega) rfl (Nat.le_of_ble_eq_true rfl) (manAheadD_M (S := (stepP b n S)) (P := P) (k := rBlow1 b n) (by omega) hn hbb hnm (Or.inr ⟨hR, ht⟩)) ?_
    rintro _ s3 ⟨r, rfl, f3, hD3⟩
    refine MV.ast C12_in11 dX12_line_284 (rfl) (by omega) (by decide) ?_
    refine MV.aload_n dX12_line_285 rfl ?_
    refine MV.getf 12 fl_X12_40 dX12_line_286 (by decide) rfl ?_
    refine MV.iload dX12_line_289 rfl ?_
    refine MV.aload_n dX12_line_291 rfl ?_
    refine MV.iconst (v := nI 0) dX12_line_292 (by decide) ?_
    refine MV.iconst (v := nI 1) dX12_line_293 (by decide) ?_
    refine MV.cV2 yoX12_numeral ml_X12_238 im_X12_numeral se_X12_numeral dX12_line_294 rfl (Nat.le_of_ble_eq_true rfl) (by omega) rfl (Nat.le_of_ble_eq_true rfl) (numeralD_M (s := mA s3 11 (8 + z) r) (S := (stepP b n (stepP b n S))) (l := 0) (u := 1) (k := rBlow2 b n (nat (findP (stepP b n S)))) (by omega) hn hbb (by omega) (by omega) (hD3.imp id (fun z => ⟨z.1, z.2.2⟩))) ?_
    rintro _ s4 ⟨r2, rfl, f4, hD4⟩
    refine MV.ast C12_in12 dX12_line_297 (rfl) (by omega) (by decide) ?_
    refine MV.aload_n dX12_line_298 rfl ?_
    refine MV.getf 13 fl_X12_43 dX12_line_299 (by decide) rfl ?_
    refine MV.iload dX12_line_302 rfl ?_
    refine MV.aload_n dX12_line_304 rfl ?_
    refine MV.iconst (v := nI 0) dX12_line_305 (by decide) ?_
    refine MV.bipush (v := nI 99) dX12_line_306 (by decide) ?_
    refine MV.cV2 yoX12_numeral ml_X12_238 im_X12_numeral se_X12_numeral dX12_line_308 rfl (Nat.le_of_ble_eq_true rfl) (by omega) rfl (Nat.le_of_ble_eq_true rfl) (numeralD_M (s := mA s4 12 (8 + z) r2) (S := (stepP b n (stepP b n (stepP b n S)))) (l := 0) (u := 99) (k := rBlow3 b n (nat (findP (stepP b n S))) (stepP b n (stepP b n S)).1.2.2.2) (by omega) hn hbb (by omega) (by omega) (hD4.imp id (fun z => ⟨z.1, z.2.2.2⟩))) ?_
    rintro _ s5 ⟨r3, rfl, f5, hD5⟩
    have K3 : ∀ j, (j < 23 ∨ 28 < j) → s5.1 j = s.1 j := fun j hj => (f5.2 j (by omega) (by omega) (by omega) (by omega) (by omega) (by omega)).trans ((f4.2 j (by omega) (by omega) (by omega) (by omega) (by omega) (by omega)).trans (f3.2 j (by omega) (by omega) (by omega) (by omega) (by omega) (by omega)))
    refine MV.ast C12_in13 dX12_line_311 (rfl) (by omega) (by decide) ?_
    refine MV.aload_n dX12_line_312 rfl ?_
    refine MV.iconst (v := nI 3) dX12_line_313 (by decide) ?_
    refine MV.aload_n dX12_line_314 rfl ?_
    refine MV.iconst (v := nI 3) dX12_line_315 (by decide) ?_
    refine MV.cV1 yoX12_fresher ml_X12_218 im_X12_fresher se_X12_fresher dX12_line_316 rfl (Nat.le_of_ble_eq_true rfl) (by omega) rfl (Nat.le_of_ble_eq_true rfl) (fresher_M (s := mA s5 13 (8 + z) r3) (k := 3) (by omega) (by omega)) (MV.rdK ?_)
    refine MV.eqi (nI z) (by show s5.2.1 3 11 = _; rw [f5.1]; show s4.2.1 3 11 = _; rw [f4.1]; show s3.2.1 3 11 = _; rw [f3.1]; exact hz8) ?_
    refine MV.iconst (v := 1) dX12_line_319 (by decide) ?_
    refine MV.iadd dX12_line_320 ?_
    refine MV.eqi (nI (z + 1)) (nI_1 z) ?_
    refine MV.cV2 yoX12_reads ml_X12_242 im_X12_reads se_X12_reads dX12_line_321 rfl (Nat.le_of_ble_eq_true rfl) (by omega) rfl (Nat.le_of_ble_eq_true rfl) (reads_M (s := mA s5 13 (8 + z) r3) (k := 3) (v := nI (z + 1)) (by omega) (by omega)) ?_
    rintro _ _ ⟨rfl, rfl⟩
    refine MV.goto 369 dX12_line_324 (by decide) ?_
    refine MV.weak [some (.ref a), none, none, none, none] (by simp [leL, sto1, sto2, k2c]) (lineEnd_M (by omega) hn hbb ?_ ?_ ?_)
    · exact (((((((hf.k3 f3).a (k := 11) (by decide) (by decide) (by show 8 ≤ 8 + z; omega)).k3 f4).a (k := 12) (by decide) (by decide) (by show 8 ≤ 8 + z; omega)).k3 f5).a (k := 13) (by decide) (by decide) (by show 8 ≤ 8 + z; omega))).a (k := 3) (by decide) (by decide) (by show 8 ≤ 8 + 3; omega)
    · exact (K3 21 (by decide)).trans h21
    · rcases hD5 with hD5 | ⟨hR5, hq3, hok3, ht5⟩
      · exact Or.inl hD5
      · refine Or.inr ?_
        rcases hD4 with hD4 | ⟨-, hq2, hok2, -⟩
        · exact absurd (show true = false from (by have := hD4.1; rw [hR5] at this; exact this)) (by decide)
        rcases hD3 with hD3 | ⟨-, ⟨i, hi, hri, hfi⟩, -⟩
        · exact absurd (show true = false from (by have := hD3.1; rw [hR5] at this; exact this)) (by decide)
        have e5 : s5.2.1 = uA (uA s.2.1 11 (8 + z) r) 12 (8 + z) r2 := by rw [f5.1]; show uA s4.2.1 12 (8 + z) r2 = _; rw [f4.1]; show uA (uA s3.2.1 11 (8 + z) r) 12 (8 + z) r2 = _; rw [f3.1]
        have hT := relT_blow (x := r) (y := r2) (u := r3) g1 hz8 hz12
        have hok4 := okS_line (b := b) g7 (by rw [hR5]; rfl)
        have hni : nat (findP (stepP b n S)) = i := by rw [hfi]; exact nat_nI (by have := hnm.1; omega)
        rw [hR5, hni] at hok4 ⊢
        refine ⟨rfl, ht5, ⟨?_, (K3 31 (by decide)).trans g2, (K3 32 (by decide)).trans g3, g4, g5, g6, hok4⟩, ?_⟩
        · show relT ((S.2.1.1, S.2.1.2.1, dAdd S.2.1.2.2.1 (nat (S.2.1.2.2.1.1 0)) (nI i) (stepP b n (stepP b n S)).1.2.2.2 (stepP b n (stepP b n (stepP b n S))).1.2.2.2, S.2.1.2.2.2)) (upF (uA (uA s5.2.1 13 (8 + z) r3) 3 (8 + 3) (nI (z + 1))))
          rw [e5, upF_uJ (k := 3) (i := 3) (j := 8 + 3) rfl, upF_uJ (k := 13) (i := z) (j := 8 + z) rfl, upF_uJ (k := 12) (i := z) (j := 8 + z) rfl, upF_uJ (k := 11) (i := z) (j := 8 + z) rfl, ← hze, ← hri, ← hq2, ← hq3]
          exact hT
        · show tdR _ (s5.1 20)
          rw [K3 20 (by decide), h20]
          exact htd.same (by omega) rfl rfl rfl
  · skip
    exact absurd cs96 (by decide) --done
  · skip
    exact absurd cs96 (by decide) --done
  · skip
    exact absurd cs96 (by decide) --done
  · skip
    exact absurd rfl (co96 (3, 264) (by simp)) --done
set_option maxRecDepth 100000 in
set_option maxHeartbeats 8000000 in
theorem lineDraft_M {d n0 a : Nat} {κ : Kd} {h0 : Hp} (hd : 12 ≤ d) {b : Nat → Int32} {n : Nat} (hn : n ≤ 700) (hbb : ∀ k, k < n → ¬ b k = -1 ∧ b k < 256) {s0 s : St} {S : PS} (h : LQ b n S s0 s 5) (hk : S.1.2.1 = nI 5) (hno : S.2.1.1.1 12 = 0) : MV MX12_line (d, 0, 0, n0, κ) a h0 s 95 [some (.ref a), some (.int (nI 5)), none, none, none] [] (LPo b n S s0) := by
  obtain ⟨hf, h21, h20, hM, ht, htd⟩ := h
  obtain ⟨g1, g2, g3, g4, g5, g6, g7⟩ := id hM
  have hR : lineP b n S = bindP (numP (nI 0) (nI 100) (stepP b n S)) (rDraft1 b n) := by
    rw [lP_5 hk]
    unfold rDraft
    rw [if_pos hno]
    rfl
  refine MV.iload_n dX12_line_95 rfl ?_
  refine MV.tswG [(0, 140), (1, 198), (2, 205), (3, 264), (4, 327), (5, 334), (6, 349)] 365 dX12_line_96 (by decide) (by decide +kernel) (fa_cons (fun cs96 => ?_) (fa_cons (fun cs96 => ?_) (fa_cons (fun cs96 => ?_) (fa_cons (fun cs96 => ?_) (fa_cons (fun cs96 => ?_) (fa_cons (fun cs96 => ?_) (fa_cons (fun cs96 => ?_) fa_nil))))))) (fun co96 => ?_)
  · skip
    exact absurd cs96 (by decide) --done
  · skip
    exact absurd cs96 (by decide) --done
  · skip
    exact absurd cs96 (by decide) --done
  · skip
    exact absurd cs96 (by decide) --done
  · skip
    exact absurd cs96 (by decide) --done
  · skip
    refine MV.aload_n dX12_line_334 rfl ?_
    refine MV.iconst (v := nI 5) dX12_line_335 (by decide) ?_
    refine MV.aload_n dX12_line_336 rfl ?_
    refine MV.iconst (v := nI 0) dX12_line_337 (by decide) ?_
    refine MV.bipush (v := nI 100) dX12_line_338 (by decide) ?_
    refine MV.cV2 yoX12_numeral ml_X12_238 im_X12_numeral se_X12_numeral dX12_line_340 rfl (Nat.le_of_ble_eq_true rfl) (by omega) rfl (Nat.le_of_ble_eq_true rfl) (numeralD_M (S := (stepP b n S)) (l := 0) (u := 100) (k := rDraft1 b n) (by omega) hn hbb (by omega) (by omega) (Or.inr ⟨hR, ht⟩)) ?_
    rintro _ s3 ⟨r, rfl, f3, hD3⟩
    have K3 : ∀ j, (j < 23 ∨ 28 < j) → s3.1 j = s.1 j := fun j hj => f3.2 j (by omega) (by omega) (by omega) (by omega) (by omega) (by omega)
    refine MV.cV2 yoX12_reads ml_X12_242 im_X12_reads se_X12_reads dX12_line_343 rfl (Nat.le_of_ble_eq_true rfl) (by omega) rfl (Nat.le_of_ble_eq_true rfl) (reads_M (s := s3) (k := 5) (v := r) (by omega) (by omega)) ?_
    rintro _ _ ⟨rfl, rfl⟩
    refine MV.goto 369 dX12_line_346 (by decide) ?_
    refine MV.weak [some (.ref a), none, none, none, none] (by simp [leL, sto1, sto2, k2c]) (lineEnd_M (by omega) hn hbb ?_ ?_ ?_)
    · exact (hf.k3 f3).a (k := 3) (by decide) (by decide) (by show 8 ≤ 8 + 5; omega)
    · exact (K3 21 (by decide)).trans h21
    · rcases hD3 with hD3 | ⟨hR3, hr, hok, ht3⟩
      · exact Or.inl hD3
      · refine Or.inr ?_
        have hok4 := okS_line (b := b) g7 (by rw [hR3]; rfl)
        rw [hR3] at hok4 ⊢
        refine ⟨rfl, ht3, ⟨?_, (K3 31 (by decide)).trans g2, (K3 32 (by decide)).trans g3, g4, g5, g6, hok4⟩, ?_⟩
        · show relT ((upd (upd S.2.1.1.1 12 1) 10 (stepP b n S).1.2.2.2, S.2.1.1.2), S.2.1.2) (upF (uA s3.2.1 3 (8 + 5) r))
          rw [f3.1, upF_uJ (k := 3) (i := 5) (j := 8 + 5) rfl, ← hr]
          exact relT_draft g1
        · show tdR _ (s3.1 20)
          rw [K3 20 (by decide), h20]
          exact htd.draft
  · skip
    exact absurd cs96 (by decide) --done
  · skip
    exact absurd rfl (co96 (5, 334) (by simp)) --done
set_option maxRecDepth 100000 in
set_option maxHeartbeats 8000000 in
theorem lineSeed_M {d n0 a : Nat} {κ : Kd} {h0 : Hp} (hd : 12 ≤ d) {b : Nat → Int32} {n : Nat} (hn : n ≤ 700) (hbb : ∀ k, k < n → ¬ b k = -1 ∧ b k < 256) {s0 s : St} {S : PS} (h : LQ b n S s0 s 6) (hk : S.1.2.1 = nI 6) (hno : S.2.1.1.1 13 = 0) : MV MX12_line (d, 0, 0, n0, κ) a h0 s 95 [some (.ref a), some (.int (nI 6)), none, none, none] [] (LPo b n S s0) := by
  obtain ⟨hf, h21, h20, hM, ht, htd⟩ := h
  obtain ⟨g1, g2, g3, g4, g5, g6, g7⟩ := id hM
  have hR : lineP b n S = bindP (numP (nI 0) (nI 99999) (stepP b n S)) (rSeed1 b n) := by
    rw [lP_6 hk]
    unfold rSeed
    rw [if_pos hno]
    rfl
  refine MV.iload_n dX12_line_95 rfl ?_
  refine MV.tswG [(0, 140), (1, 198), (2, 205), (3, 264), (4, 327), (5, 334), (6, 349)] 365 dX12_line_96 (by decide) (by decide +kernel) (fa_cons (fun cs96 => ?_) (fa_cons (fun cs96 => ?_) (fa_cons (fun cs96 => ?_) (fa_cons (fun cs96 => ?_) (fa_cons (fun cs96 => ?_) (fa_cons (fun cs96 => ?_) (fa_cons (fun cs96 => ?_) fa_nil))))))) (fun co96 => ?_)
  · skip
    exact absurd cs96 (by decide) --done
  · skip
    exact absurd cs96 (by decide) --done
  · skip
    exact absurd cs96 (by decide) --done
  · skip
    exact absurd cs96 (by decide) --done
  · skip
    exact absurd cs96 (by decide) --done
  · skip
    exact absurd cs96 (by decide) --done
  · skip
    refine MV.aload_n dX12_line_349 rfl ?_
    refine MV.bipush (v := nI 6) dX12_line_350 (by decide) ?_
    refine MV.aload_n dX12_line_352 rfl ?_
    refine MV.iconst (v := nI 0) dX12_line_353 (by decide) ?_
    refine MV.ldc kc_X12_186 dX12_line_354 ?_
    refine MV.eqi (nI 99999) rfl ?_
    refine MV.cV2 yoX12_numeral ml_X12_238 im_X12_numeral se_X12_numeral dX12_line_356 rfl (Nat.le_of_ble_eq_true rfl) (by omega) rfl (Nat.le_of_ble_eq_true rfl) (numeralD_M (S := (stepP b n S)) (l := 0) (u := 99999) (k := rSeed1 b n) (by omega) hn hbb (by omega) (by omega) (Or.inr ⟨hR, ht⟩)) ?_
    rintro _ s3 ⟨r, rfl, f3, hD3⟩
    have K3 : ∀ j, (j < 23 ∨ 28 < j) → s3.1 j = s.1 j := fun j hj => f3.2 j (by omega) (by omega) (by omega) (by omega) (by omega) (by omega)
    refine MV.cV2 yoX12_reads ml_X12_242 im_X12_reads se_X12_reads dX12_line_359 rfl (Nat.le_of_ble_eq_true rfl) (by omega) rfl (Nat.le_of_ble_eq_true rfl) (reads_M (s := s3) (k := 6) (v := r) (by omega) (by omega)) ?_
    rintro _ _ ⟨rfl, rfl⟩
    refine MV.goto 369 dX12_line_362 (by decide) ?_
    refine MV.weak [some (.ref a), none, none, none, none] (by simp [leL, sto1, sto2, k2c]) (lineEnd_M (by omega) hn hbb ?_ ?_ ?_)
    · exact (hf.k3 f3).a (k := 3) (by decide) (by decide) (by show 8 ≤ 8 + 6; omega)
    · exact (K3 21 (by decide)).trans h21
    · rcases hD3 with hD3 | ⟨hR3, hr, hok, ht3⟩
      · exact Or.inl hD3
      · refine Or.inr ?_
        have hok4 := okS_line (b := b) g7 (by rw [hR3]; rfl)
        rw [hR3] at hok4 ⊢
        refine ⟨rfl, ht3, ⟨?_, (K3 31 (by decide)).trans g2, (K3 32 (by decide)).trans g3, g4, g5, g6, hok4⟩, ?_⟩
        · show relT ((upd (upd S.2.1.1.1 13 1) 11 (stepP b n S).1.2.2.2, S.2.1.1.2), S.2.1.2) (upF (uA s3.2.1 3 (8 + 6) r))
          rw [f3.1, upF_uJ (k := 3) (i := 6) (j := 8 + 6) rfl, ← hr]
          exact relT_seed g1
        · show tdR _ (s3.1 20)
          rw [K3 20 (by decide), h20]
          exact htd.seed
  · skip
    exact absurd rfl (co96 (6, 349) (by simp)) --done
