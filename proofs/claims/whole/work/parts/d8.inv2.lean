/-! what holds between two calls: at the beginning, behind feed, behind text -/
section Inv2
variable {s s2 s3 : St} {T T2 : Tx} {c g th u F k pa tu rd tk : St}
theorem cBegin_k {T : Tx} {c : St} {p : Nat} : (cBegin c T.1).1 0 = T.1.1 0 ∧ (cBegin c T.1).1 7 = 0 ∧ (cBegin c T.1).1 8 = 0 ∧ (cBegin c T.1).1 9 = 0 ∧ (cBegin c T.1).1 10 = T.1.1 11 ∧ (cBegin c T.1).2.1 1 p = T.1.2.1 2 p ∧ (cBegin c T.1).2.2.1 2 p = T.1.2.2.1 3 p ∧ (cBegin c T.1).2.1 3 p = 0 ∧ (cBegin c T.1).2.1 4 p = 0 ∧ (cBegin c T.1).2.1 5 p = 0 ∧ (cBegin c T.1).2.1 6 p = 0 := by
  unfold cBegin
  simp [upd, uR]
theorem MU.begun {T : Tx} {c g u s : St} (hq : qui s) (h47 : s.1 47 = -1) (hT : relT T s.2.1) (h44 : s.1 44 = 0) (h45 : s.1 45 = 0) (hf : s.2.1 36 0 = 0 ∧ s.2.1 37 0 = s.2.1 3 6 ∧ s.2.1 38 0 = 0 ∧ s.2.1 39 0 = 0) (hz : ∀ k p, 40 ≤ k → k ≤ 43 → p < 6 → s.2.1 k (6 * 0 + p) = 0) (hu : u.1 0 = 0) : MU T (cBegin c T.1) g u false s := by
  have n1 := hT.1.1.2
  have n0 := hT.1.2.1
  have h5 := hT.1.2.2
  have hu0 : nat (u.1 0) = 0 := by rw [hu]; rfl
  refine ⟨hq, h47, ⟨hT, ?_, fun p hp => ?_⟩, h44, fun z => (by cases z), ⟨by rw [hu]; exact ⟨rfl, by decide⟩, by rw [h45, hu], fun j hj => absurd hj (by omega)⟩⟩
  · refine relC.begun hT frR.rf hf hz (cBegin_k (p := 0)).1 (cBegin_k (p := 0)).2.1 (cBegin_k (p := 0)).2.2.1 (cBegin_k (p := 0)).2.2.2.1 (cBegin_k (p := 0)).2.2.2.2.1 (fun k p h1 h2 hp => ?_) (fun p hp => ?_)
    · rcases (show k = 3 ∨ k = 4 ∨ k = 5 ∨ k = 6 by omega) with rfl | rfl | rfl | rfl
      · exact (cBegin_k (p := p)).2.2.2.2.2.2.2.1
      · exact (cBegin_k (p := p)).2.2.2.2.2.2.2.2.1
      · exact (cBegin_k (p := p)).2.2.2.2.2.2.2.2.2.1
      · exact (cBegin_k (p := p)).2.2.2.2.2.2.2.2.2.2
    · have hp2 : p < nat (s.2.1 3 0) := by rw [← n0]; exact hp
      rw [hq.mIn (by omega), (cBegin_k (p := p)).2.2.2.2.2.1, (cBegin_k (p := p)).2.2.2.2.2.2.1]
      exact ⟨(h5 p hp2).2.1, rfl⟩
  · have hp2 : p < nat (s.2.1 3 0) := by rw [← n0]; exact hp
    obtain ⟨a1, a2, a3⟩ := h5 p hp2
    have a4 := a3.2
    obtain ⟨b1, b2, b3, b4, b5, b6, b7, b8, b9, b10, b11⟩ := cBegin_k (T := T) (c := c) (p := p)
    exact ⟨nat (s.2.1 5 p), 0, 0, by rw [b6, a2]; exact a3.1, b8, b9, by omega, by omega, by rw [b10]; exact ⟨rfl, by decide⟩⟩
theorem INV.text {S' : FS} {s3 : St} {R : Int32 × PS} {v v2 : Option Value} (h : INV (mkF s T T2 c g th u F k pa tu rd tk) s2) (hcap : cap2 R.2 = (12, 8)) (hdr : okN (drB R.2) 101) (hF : TFP s T c g th u F k pa tu R v S') (hM : TXP R s2 v2 s3) : v = v2 ∧ INV S' s3 := by
  obtain ⟨hi, t, pl, o, l, i1, i2, ⟨m1, m2, m3, m4, m5, m6, m7, m8⟩, i4, i5, ⟨i6, i7, i8, i9, i10⟩, ⟨i11, i12⟩, i13, i14, i15⟩ := h
  obtain ⟨rfl, s9, rd9, tk9, ⟨f1, f2⟩, ⟨r1, r2, r3, r4, r5, r6⟩, hS⟩ := hF
  obtain ⟨rfl, t0, t2, hT⟩ := hM
  refine ⟨rfl, ?_⟩
  have hcap1 : R.2.2.1.2.1.1 1 = 12 := congrArg Prod.fst hcap
  have hcap2 : R.2.2.1.2.2.1.1 1 = 8 := congrArg Prod.snd hcap
  rcases hT with ⟨q1, ⟨q2, q3⟩, q4, q5, q6⟩ | ⟨⟨j, j1, j2⟩, ⟨q2, q3⟩, ⟨q4, q5⟩, qT, qw, q7, ⟨b1, b2, b3, b4⟩, b5, b6, b7, b8⟩
  · rcases hS with ⟨-, rfl, e7⟩ | ⟨z, -⟩
    · have r : ∀ {r : Nat} {c : St}, Rm T s2 r c → Rm T s3 r c := fun hh => hh.no q4 (fun k hk => q5 k (Or.inr hk)) q6
      have e1 : s3.2.1 1 = s2.2.1 1 := q5 1 (by decide)
      refine ⟨hi, 0, _, _, _, i1, i2, ⟨⟨(q4 46 (by decide)).trans m1.1, (q4 48 (by decide)).trans m1.2⟩, (q4 47 (by decide)).trans m2, r m3, (q4 44 (by decide)).trans m4, fun z => r (m5 z), m6, (q4 45 (by decide)).trans m7, fun j hj => ⟨(m8 j hj).1, r (m8 j hj).2⟩⟩, i4.fr (q4 55 (by decide)) (q4 56 (by decide)) (fun k a b => q5 k (by omega)), e7.trans i5, ⟨f1, t2, by omega, by show s9.2.1 0 = _; rw [f2, e1]; exact i9, fun k hk => absurd hk (by omega)⟩, ⟨q2.trans r1.symm, q3.trans r2.symm⟩, ⟨r6, r3, r4, r5⟩, i14, ⟨hcap1, hcap2⟩⟩
    · exact absurd (by rw [q1]; decide) z
  · rcases hS with ⟨z, -⟩ | ⟨-, rfl, e7⟩
    · exact absurd z (by rw [j2]; exact nI_nlt0 j (by omega))
    · have e1 : s3.2.1 1 = s2.2.1 1 := b8 1 (by decide)
      have hm : MU R.2.2.1 (cBegin c R.2.2.1.1) g (uZero u) false s3 := MU.begun ⟨(b7 46 (by decide) (by decide) (by decide) (by decide) (by decide) (by decide)).trans m1.1, (b7 48 (by decide) (by decide) (by decide) (by decide) (by decide) (by decide)).trans m1.2⟩ ((b7 47 (by decide) (by decide) (by decide) (by decide) (by decide) (by decide)).trans m2) qT b1 b2 b5 b6 (by unfold uZero; simp [upd])
      refine ⟨false, 0, _, _, _, qw, hdr, hm, ⟨(by show okN ((fZero F).1 0) 25; rw [show (fZero F).1 0 = 0 from rfl]; exact ⟨rfl, by decide⟩), b3, b4, Or.inl rfl, fun k hk => ?_, fun k hk => absurd hk (by show ¬ k < 0; omega)⟩, e7, ⟨f1, t2, by omega, by show s9.2.1 0 = _; rw [f2, e1]; exact i9, fun k hk => absurd hk (by omega)⟩, ⟨q4.trans (q2.symm.trans r1.symm), q5.trans (q3.symm.trans r2.symm)⟩, ⟨r6, r3, r4, r5⟩, ⟨hcap1, hcap2, q7.1⟩, ⟨i14.1, i14.2.1⟩⟩
      have := i4.2.2.2.2.1 k hk
      rw [b8 57 (by decide), b8 58 (by decide), b8 59 (by decide), b8 60 (by decide), b8 61 (by decide)]
      exact this
theorem byteF_ok : ∀ (x : Int32) (i : Nat), ¬ byteF x i = -1 ∧ byteF x i < 256 := by
  intro x i
  unfold byteF
  obtain ⟨n, hn, e⟩ := wb_of32 (x >>> (nI (24 - 8 * (i % 4)) &&& 31))
  rw [e, show (255 : Int32) = nI (2 ^ 8 - 1) by decide, nx_and, Nat.and_two_pow_sub_one_eq_mod]
  have h : n % 2 ^ 8 < 256 := Nat.mod_lt _ (by decide)
  exact (show ∀ m, m < 256 → ¬ nI m = -1 ∧ nI m < 256 by decide +kernel) _ h
theorem feedF_out {x1 x2 x3 x4 x5 : Int32} {r : Nat → Int32} {t : Nat} : ∀ (n k : Nat), k < t → feedF x1 x2 x3 x4 x5 r t n k = r k := by
  intro n
  induction n with
  | zero => intro k _; rfl
  | succ n ih => intro k hk; rw [feedF, upd_ne (by omega), ih k hk]
theorem feedF_in {x1 x2 x3 x4 x5 : Int32} {r : Nat → Int32} {t : Nat} : ∀ (n k : Nat), t ≤ k → k < t + n → ¬ feedF x1 x2 x3 x4 x5 r t n k = -1 ∧ feedF x1 x2 x3 x4 x5 r t n k < 256 := by
  intro n
  induction n with
  | zero => intro k h1 h2; omega
  | succ n ih =>
    intro k h1 h2
    rw [feedF]
    by_cases q : k = t + n
    · subst q
      rw [show upd (feedF x1 x2 x3 x4 x5 r t n) (t + n) (byteF (pickF x1 x2 x3 x4 x5 n) n) (t + n) = byteF (pickF x1 x2 x3 x4 x5 n) n from if_pos rfl]
      exact byteF_ok _ _
    · rw [upd_ne q]
      exact ih k h1 (by omega)
theorem INV.feed {s' s3 : St} {t : Nat} {x1 x2 x3 x4 x5 : Int32} (h : INV (mkF s T T2 c g th u F k pa tu rd tk) s2) (ht : s.1 1 = nI t) (ht7 : t ≤ 700) (e1 : s'.1 1 = (if t ≤ 680 then nI (t + 20) else nI t)) (e7 : s'.1 7 = s.1 7) (e0 : s'.2.1 0 = (if t ≤ 680 then feedF x1 x2 x3 x4 x5 (s.2.1 0) t 20 else s.2.1 0))
    (g2 : s3.1 2 = (if t ≤ 680 then nI (t + 20) else nI t)) (g1 : s3.2.1 1 = (if t ≤ 680 then feedF x1 x2 x3 x4 x5 (s2.2.1 1) t 20 else s2.2.1 1)) (f : frT s2 s3) : INV (mkF s' T T2 c g th u F k pa tu rd tk) s3 := by
  obtain ⟨hi, t', pl, o, l, i1, i2, ⟨m1, m2, m3, m4, m5, m6, m7, m8⟩, i4, i5, ⟨i6, i7, i8, i9, i10⟩, ⟨i11, i12⟩, i13⟩ := h
  have et : t' = t := nI_inj (by omega) (by omega) (i6.symm.trans ht)
  subst et
  have r : ∀ {r : Nat} {c : St}, Rm T s2 r c → Rm T s3 r c := fun hh => hh.no (fun j hj => f.1 j (by omega) (by omega)) (fun k hk => f.2 k (by omega)) (fun k h3 _ i _ => by rw [f.2 k (by omega)])
  have q : ∀ j, j ≠ 0 → j ≠ 2 → s3.1 j = s2.1 j := f.1
  refine ⟨hi, (if t' ≤ 680 then t' + 20 else t'), pl, o, l, i1, i2, ⟨⟨(q 46 (by decide) (by decide)).trans m1.1, (q 48 (by decide) (by decide)).trans m1.2⟩, (q 47 (by decide) (by decide)).trans m2, r m3, (q 44 (by decide) (by decide)).trans m4, fun z => r (m5 z), m6, (q 45 (by decide) (by decide)).trans m7, fun j hj => ⟨(m8 j hj).1, r (m8 j hj).2⟩⟩, i4.fr (q 55 (by decide) (by decide)) (q 56 (by decide) (by decide)) (fun k a b => f.2 k (by omega)), e7.trans i5, ?_, ⟨(q 29 (by decide) (by decide)).trans i11, (q 30 (by decide) (by decide)).trans i12⟩, i13⟩
  by_cases h6 : t' ≤ 680
  · rw [if_pos h6] at e1 e0 g2 g1 ⊢
    refine ⟨e1, g2, by omega, ?_, fun k hk => ?_⟩
    · show s'.2.1 0 = _
      rw [e0, g1, show s.2.1 0 = s2.2.1 1 from i9]
    · rw [g1]
      by_cases hk2 : k < t'
      · rw [feedF_out 20 k hk2]
        exact i10 k hk2
      · exact feedF_in 20 k (by omega) (by omega)
  · rw [if_neg h6] at e1 e0 g2 g1 ⊢
    refine ⟨e1, g2, ht7, ?_, fun k hk => ?_⟩
    · show s'.2.1 0 = _
      rw [e0, g1, show s.2.1 0 = s2.2.1 1 from i9]
    · rw [g1]
      exact i10 k hk
end Inv2
