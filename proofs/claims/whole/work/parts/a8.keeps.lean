/-! The class's reading of a LINE: it goes forward, leaves the FAULT alone, and what is told stays in order -/
def wfQ (T : Tx) : Prop := wfD T.2.1 (nat (T.1.1 0)) ∧ wfD T.2.2.1 (nat (T.1.1 0))
def kpS (p : Nat) (f g : Int32) (S : PS) : Prop := p ≤ S.1.1 ∧ S.2.2.1 = f ∧ S.2.2.2.1 = g ∧ wfQ S.2.1
theorem stepK_ge (b : Nat → Int32) (n p : Nat) (vl : Int32) : p ≤ (stepK b n p vl).1 := by
  by_cases h : (stepK b n p vl).2.1 = -1
  · unfold stepK
    by_cases h1 : n ≤ p
    · rw [if_pos h1]; exact Nat.le_refl _
    rw [if_neg h1]
    by_cases h2 : letB (b p) = true
    · rw [if_pos h2]; exact (spF_ge letB b (n - p) p).1
    rw [if_neg h2]
    by_cases h3 : digB (b p) = true
    · rw [if_pos h3]; exact (spF_ge digB b (n - p) p).1
    rw [if_neg h3]
    exact Nat.le_add_right _ _
  · exact Nat.le_of_lt (stepK_at h)
theorem tokN_ge (b : Nat → Int32) (n : Nat) (q : Tk) : q.1 ≤ (tokN b n q).1 := Nat.le_trans (spF_ge blkB b (n - q.1) q.1).1 (stepK_ge b n _ _)
theorem tokN_gt {b : Nat → Int32} {n : Nat} {q : Tk} (h : ¬ (tokN b n q).2.1 = -1) : q.1 < (tokN b n q).1 := Nat.lt_of_le_of_lt (spF_ge blkB b (n - q.1) q.1).1 (stepK_at h)
theorem wfD.up {D : St} {m n : Nat} (h : wfD D m) (hm : m ≤ n) : wfD D n := ⟨h.1, fun k hk => ⟨(h.2 k hk).1.up hm, (h.2 k hk).2⟩⟩
theorem wfD.add {D : St} {n i : Nat} {e u : Int32} (h : wfD D n) (hz : nat (D.1 0) < 12) (hi : i < n) (hn : n ≤ 6) (he : okN e 2) : wfD (dAdd D (nat (D.1 0)) (nI i) e u) n := by
  have e1 : (dAdd D (nat (D.1 0)) (nI i) e u).1 0 = nI (nat (D.1 0) + 1) := rfl
  refine ⟨okN.of e1 (by omega) (by decide), fun k hk => ?_⟩
  rw [e1, nat_nI (by omega)] at hk
  show okN (if k = nat (D.1 0) then nI i else D.2.1 2 k) n ∧ okN (if k = nat (D.1 0) then e else D.2.1 3 k) 2
  by_cases z : k = nat (D.1 0)
  · rw [if_pos z, if_pos z]; exact ⟨okN.of rfl hi (by omega), he⟩
  · rw [if_neg z, if_neg z]; exact h.2 k (by omega)
section Keeps
variable {b : Nat → Int32} {n p : Nat} {f g : Int32} {S : PS}
theorem kpS.step (h : kpS p f g S) : kpS p f g (stepP b n S) := ⟨Nat.le_trans h.1 (tokN_ge b n S.1), h.2⟩
theorem kp_rPers (ok : okS n S) (kp : kpS p f g S) (h : (rPers b n S).1 = true) : kpS p f g (rPers b n S).2 := by
  unfold rPers at h ⊢
  by_cases q : S.2.1.1.1 0 < 6
  · rw [if_pos q] at h ⊢
    have hl : nat (S.2.1.1.1 0) < 6 := by
      have h1 := ok.2.1
      have h2 := h1.2
      rw [h1.1] at q
      exact (nI_ltI (by omega) (by decide)).mp q
    refine bindP_ok (fun z => (nextP_t z).1) h (fun _ h => ?_)
    unfold rPers1 at h ⊢
    by_cases q2 : findP (stepP b n S) < 0
    · rw [if_pos q2] at h ⊢
      refine bindP_ok (fun z => (numP_t z).1) h (fun _ h => ?_)
      obtain ⟨k1, k2, k3, k4, k5⟩ := (kp.step (b := b) (n := n)).step (b := b) (n := n)
      have e1 : nat (nI (nat (S.2.1.1.1 0) + 1)) = nat (S.2.1.1.1 0) + 1 := nat_nI (by omega)
      refine kpS.step ⟨k1, k2, k3, ?_, ?_⟩
      · show wfD _ (nat (nI (nat (S.2.1.1.1 0) + 1)))
        rw [e1]; exact k4.up (by show nat (S.2.1.1.1 0) ≤ _; omega)
      · show wfD _ (nat (nI (nat (S.2.1.1.1 0) + 1)))
        rw [e1]; exact k5.up (by show nat (S.2.1.1.1 0) ≤ _; omega)
    · rw [if_neg q2] at h; cases h
  · rw [if_neg q] at h; cases h
theorem kp_rJune (kp : kpS p f g S) (h : (rJune b n S).1 = true) : kpS p f g (rJune b n S).2 := by
  unfold rJune at h ⊢
  by_cases q : S.2.1.1.1 5 < 12
  · rw [if_pos q] at h ⊢
    refine bindP_ok (fun z => (persP_t z).1) h (fun _ h => ?_)
    unfold rJune1 at h ⊢
    refine bindP_ok (fun z => (numP_t z).1) h (fun _ h => ?_)
    unfold rJune2 at h ⊢
    split at h
    · cases h
    · rename_i q2
      rw [if_neg q2]
      exact kpS.step (kpS.step (kpS.step kp))
  · rw [if_neg q] at h; cases h
theorem kp_rDraft (kp : kpS p f g S) (h : (rDraft b n S).1 = true) : kpS p f g (rDraft b n S).2 := by
  unfold rDraft at h ⊢
  by_cases q : S.2.1.1.1 12 = 0
  · rw [if_pos q] at h ⊢
    exact bindP_ok (fun z => (numP_t z).1) h (fun _ h => kpS.step (kpS.step kp))
  · rw [if_neg q] at h; cases h
theorem kp_rSeed (kp : kpS p f g S) (h : (rSeed b n S).1 = true) : kpS p f g (rSeed b n S).2 := by
  unfold rSeed at h ⊢
  by_cases q : S.2.1.1.1 13 = 0
  · rw [if_pos q] at h ⊢
    exact bindP_ok (fun z => (numP_t z).1) h (fun _ h => kpS.step (kpS.step kp))
  · rw [if_neg q] at h; cases h
theorem kp_rLend (kp : kpS p f g S) (h : (rLend b n S).1 = true) : kpS p f g (rLend b n S).2 := by
  unfold rLend at h ⊢
  by_cases q : S.2.1.1.1 6 < 8
  · rw [if_pos q] at h ⊢
    refine bindP_ok (fun z => (persP_t z).1) h (fun _ h => ?_)
    unfold rLend1 at h ⊢
    refine bindP_ok (fun z => (persP_t z).1) h (fun _ h => ?_)
    unfold rLend2 at h ⊢
    split at h
    · cases h
    · rename_i q2
      rw [if_neg q2]
      split at h
      · rename_i q3
        rw [if_pos q3]
        exact kpS.step (kpS.step (kpS.step kp))
      · cases h
  · rw [if_neg q] at h; cases h
theorem end_ok {S : PS} (h : (numP 0 1 S).1 = true) : okN S.1.2.2.2 2 := by
  obtain ⟨-, h1, h2, h3⟩ := numP_t h
  exact okN_le (q := S.1) (l := 0) (u := 1) ⟨h1, h2, h3⟩ (by decide) (by decide)
theorem kp_rLight (ok : okS n S) (kp : kpS p f g S) (h : (rLight b n S).1 = true) : kpS p f g (rLight b n S).2 := by
  unfold rLight at h ⊢
  by_cases q : dFull S.2.1.2.1 = true
  · rw [if_pos q] at h; cases h
  · rw [if_neg q] at h ⊢
    have hl := okD_lt ok.2.2.1 (by simpa using q)
    refine bindP_ok (fun z => (persP_t z).1) h (fun hp h => ?_)
    have hf := findP_ok (okS_step ok) (persP_t hp).2.2
    unfold rLight1 at h ⊢
    refine bindP_ok (fun z => (numP_t z).1) h (fun he h => ?_)
    unfold rLight2 at h ⊢
    refine bindP_ok (fun z => (numP_t z).1) h (fun _ h => ?_)
    obtain ⟨k1, k2, k3, k4, k5⟩ := ((kp.step (b := b) (n := n)).step (b := b) (n := n)).step (b := b) (n := n)
    exact kpS.step ⟨k1, k2, k3, k4.add hl hf.2 (by have := ok.2.1.2; show nat (S.2.1.1.1 0) ≤ 6; omega) (end_ok he), k5⟩
theorem kp_rBlow (ok : okS n S) (kp : kpS p f g S) (h : (rBlow b n S).1 = true) : kpS p f g (rBlow b n S).2 := by
  unfold rBlow at h ⊢
  by_cases q : dFull S.2.1.2.2.1 = true
  · rw [if_pos q] at h; cases h
  · rw [if_neg q] at h ⊢
    have hl := okD_lt ok.2.2.2.1 (by simpa using q)
    refine bindP_ok (fun z => (persP_t z).1) h (fun hp h => ?_)
    have hf := findP_ok (okS_step ok) (persP_t hp).2.2
    unfold rBlow1 at h ⊢
    refine bindP_ok (fun z => (numP_t z).1) h (fun he h => ?_)
    unfold rBlow2 at h ⊢
    refine bindP_ok (fun z => (numP_t z).1) h (fun _ h => ?_)
    obtain ⟨k1, k2, k3, k4, k5⟩ := ((kp.step (b := b) (n := n)).step (b := b) (n := n)).step (b := b) (n := n)
    exact kpS.step ⟨k1, k2, k3, k4, k5.add hl hf.2 (by have := ok.2.1.2; show nat (S.2.1.1.1 0) ≤ 6; omega) (end_ok he)⟩
theorem kp_knotB {k : PS → Bool × PS} (kp : kpS p f g S) (h : (bindP (knotP S) k).1 = true) (hk : ∀ S1, kpS p f g S1 → kpS p f g (k S1).2) : kpS p f g (bindP (knotP S) k).2 := by
  unfold knotP at h ⊢
  by_cases q : (lawsOf S).1 0 < 64
  · rw [if_pos q] at h ⊢
    exact hk _ kp
  · rw [if_neg q] at h; cases h
theorem kp_leafP (kp : kpS p f g S) (h : (leafP S).1 = true) : kpS p f g (leafP S).2 := by
  have h2 : (leaf2 S).1 = true → kpS p f g (leaf2 S).2 := fun z => kp_knotB kp z (fun S1 o => o)
  unfold leafP at h ⊢
  by_cases q1 : S.1.2.1 = -3
  · rw [if_pos q1] at h ⊢
    by_cases q2 : S.1.2.2.2 ≤ 9999
    · rw [if_pos q2] at h ⊢; exact h2 h
    · rw [if_neg q2] at h; cases h
  · rw [if_neg q1] at h ⊢
    by_cases q2 : S.1.2.1 < 11
    · rw [if_pos q2] at h; cases h
    · rw [if_neg q2] at h ⊢
      by_cases q3 : S.1.2.1 ≤ 17
      · rw [if_pos q3] at h ⊢; exact h2 h
      · rw [if_neg q3] at h; cases h
theorem kp_partP {m : Bool} (kp : kpS p f g S) (h : (partP m S).1 = true) : kpS p f g (partP m S).2 := by
  unfold partP at h ⊢
  by_cases q1 : S.1.2.1 = 31
  · rw [if_pos q1] at h ⊢
    by_cases q2 : S.2.2.2.2.2 < 8
    · rw [if_pos q2]; exact kp
    · rw [if_neg q2] at h; cases h
  · rw [if_neg q1] at h ⊢
    by_cases q2 : S.1.2.1 = 20
    · rw [if_pos q2] at h ⊢
      by_cases q3 : m = true
      · rw [if_pos q3] at h ⊢
        exact kp_knotB kp h (fun S1 o => o)
      · rw [if_neg q3] at h ⊢; exact kp_leafP kp h
    · rw [if_neg q2] at h ⊢; exact kp_leafP kp h
theorem kp_place {lv : Int32} (kp : kpS p f g S) : kpS p f g (placeP lv S) := kp
theorem kp_binP {k : Int32} (kp : kpS p f g S) (h : (binP k S).1 = true) : kpS p f g (binP k S).2 := by
  have h2 : (bin2 k (placeP (lvl k + 1) S)).1 = true → kpS p f g (bin2 k (placeP (lvl k + 1) S)).2 := fun z => kp_knotB (kp_place kp) z (fun S1 o => o)
  unfold binP at h ⊢
  by_cases q1 : lvl k = lvl 35
  · rw [if_pos q1] at h ⊢
    by_cases q2 : clashB k (placeP (lvl k + 1) S) = true
    · rw [if_pos q2] at h; cases h
    · rw [if_neg q2] at h ⊢; exact h2 h
  · rw [if_neg q1] at h ⊢; exact h2 h
theorem kp_exprP : ∀ (F : Nat) (w m : Bool) (S : PS), kpS p f g S → (exprP b n F w m S).1 = true → kpS p f g (exprP b n F w m S).2 := by
  intro F
  induction F with
  | zero => intro w m S _ h; cases h
  | succ F ih =>
    intro w m S kp h
    rw [exprP] at h ⊢
    by_cases q1 : w = true
    · rw [if_pos q1] at h ⊢
      by_cases q2 : (partP m S).1 = true
      · rw [bindP_t q2] at h ⊢
        exact ih _ _ _ (kpS.step (kp_partP kp q2)) h
      · have q3 : (partP m S).1 = false := by simpa using q2
        rw [bindP_f q3] at h
        exact absurd h q2
    · rw [if_neg q1] at h ⊢
      by_cases q2 : isBin S.1.2.1 = true
      · rw [if_pos q2] at h ⊢
        by_cases q3 : (binP S.1.2.1 S).1 = true
        · rw [bindP_t q3] at h ⊢
          exact ih _ _ _ (kpS.step (kp_binP kp q3)) h
        · have q4 : (binP S.1.2.1 S).1 = false := by simpa using q3
          rw [bindP_f q4] at h
          exact absurd h q3
      · rw [if_neg q2] at h ⊢
        by_cases q3 : S.2.2.2.2.2 = 0
        · rw [if_pos q3]
          exact kp_place kp
        · rw [if_neg q3] at h ⊢
          by_cases q4 : S.1.2.1 = 32
          · rw [if_pos q4] at h ⊢
            exact ih _ _ _ (kpS.step (S := clsP (placeP 1 S)) kp) h
          · rw [if_neg q4] at h; cases h
theorem kp_rLaw (kp : kpS p f g S) (h : (rLaw b n S).1 = true) : kpS p f g (rLaw b n S).2 := by
  unfold rLaw rLaw0 at h ⊢
  split at h
  · cases h
  · rename_i q1
    rw [if_neg q1]
    split at h
    · rename_i q2
      rw [if_pos q2]
      unfold rLaw1 at h ⊢
      split at h
      · cases h
      · rename_i q3
        rw [if_neg q3]
        unfold rLaw2 at h ⊢
        have kb : kpS p f g (begP (stepP b n (stepP b n S))) := kpS.step (kpS.step kp)
        refine bindP_ok (fun z => Prod.ext z rfl) h (fun z h => ?_)
        exact (kp_exprP 701 true true _ kb z)
    · cases h
theorem kp_line (ok : okS n S) (kp : kpS p f g S) (h : (lineP b n S).1 = true) : kpS p f g (lineP b n S).2 := by
  unfold lineP at h ⊢
  by_cases q0 : S.1.2.1 = 0
  · rw [if_pos q0] at h ⊢; exact kp_rPers ok kp h
  · rw [if_neg q0] at h ⊢
    by_cases q1 : S.1.2.1 = 1
    · rw [if_pos q1] at h ⊢; exact kp_rJune kp h
    · rw [if_neg q1] at h ⊢
      by_cases q2 : S.1.2.1 = 2
      · rw [if_pos q2] at h ⊢; exact kp_rLight ok kp h
      · rw [if_neg q2] at h ⊢
        by_cases q3 : S.1.2.1 = 3
        · rw [if_pos q3] at h ⊢; exact kp_rBlow ok kp h
        · rw [if_neg q3] at h ⊢
          by_cases q4 : S.1.2.1 = 4
          · rw [if_pos q4] at h ⊢; exact kp_rLend kp h
          · rw [if_neg q4] at h ⊢
            by_cases q5 : S.1.2.1 = 5
            · rw [if_pos q5] at h ⊢; exact kp_rDraft kp h
            · rw [if_neg q5] at h ⊢
              by_cases q6 : S.1.2.1 = 6
              · rw [if_pos q6] at h ⊢; exact kp_rSeed kp h
              · rw [if_neg q6] at h ⊢
                by_cases q7 : S.1.2.1 = 7
                · rw [if_pos q7] at h ⊢; exact kp_rLaw kp h
                · rw [if_neg q7] at h; cases h
theorem oneP_t (h : (oneP b n S).1 = true) : (lineP b n S).1 = true ∧ oneP b n S = (true, stepP b n (lineP b n S).2) := by
  unfold oneP at h ⊢
  by_cases q : (lineP b n S).1 = true
  · rw [bindP_t q] at h ⊢
    unfold nextP at h ⊢
    by_cases q2 : (lineP b n S).2.1.2.1 = 30
    · rw [if_pos q2]; exact ⟨q, rfl⟩
    · rw [if_neg q2] at h; cases h
  · have q2 : (lineP b n S).1 = false := by simpa using q
    rw [bindP_f q2] at h
    exact absurd h q
theorem kp_one (ok : okS n S) (kp : kpS p f g S) (h : (oneP b n S).1 = true) : kpS p f g (oneP b n S).2 := by
  obtain ⟨h1, h2⟩ := oneP_t h
  rw [h2]
  exact (kp_line ok kp h1).step
theorem one_gt (ok : okS n S) (kp : kpS p f g S) (h : (oneP b n S).1 = true) (he : ¬ (oneP b n S).2.1.2.1 = -1) : S.1.1 < (oneP b n S).2.1.1 := by
  obtain ⟨h1, h2⟩ := oneP_t h
  have k1 := (kp_line ok (p := S.1.1) ⟨Nat.le_refl _, kp.2⟩ h1).1
  rw [h2] at he ⊢
  exact Nat.lt_of_le_of_lt k1 (tokN_gt he)
theorem readP_one (F i : Nat) : readP b n (F + 1) i S = if S.1.2.1 = -1 then (nI i, S) else if (oneP b n S).1 = true then readP b n F (i + 1) (oneP b n S).2 else (-1, (oneP b n S).2) := by
  rw [readP]
  by_cases h : S.1.2.1 = -1
  · rw [if_pos h, if_pos h]
  · rw [if_neg h, if_neg h]
    by_cases q : (lineP b n S).1 = true
    · rw [if_pos q]
      by_cases q2 : (nextP 30 (lineP b n S).2).1 = true
      · have e := (nextP_t q2).1
        have ho : oneP b n S = (true, stepP b n (lineP b n S).2) := by
          unfold oneP
          rw [bindP_t q, e]
          rfl
        rw [if_pos q2, ho, if_pos rfl]
      · have q3 : (nextP 30 (lineP b n S).2).1 = false := by simpa using q2
        have ho : oneP b n S = nextP 30 (lineP b n S).2 := by
          unfold oneP
          rw [bindP_t q, bindP_f q3]
        rw [if_neg q2, ho, if_neg q2]
    · have q2 : (lineP b n S).1 = false := by simpa using q
      rw [if_neg q, oneP_f q2, if_neg q]
end Keeps
