/-! TextReading: a LINE keeps what holds -/
theorem bindP_ok {r : Bool × PS} {k : PS → Bool × PS} {S : PS} {p : PS → Prop} (hr : r.1 = true → r = (true, S)) (h : (bindP r k).1 = true) (hk : r.1 = true → (k S).1 = true → p (k S).2) : p (bindP r k).2 := by
  by_cases q : r.1 = true
  · rw [bindP_k (hr q)] at h ⊢
    exact hk q h
  · have q2 : r.1 = false := by simpa using q
    rw [bindP_f q2] at h
    exact absurd h q
theorem okS_rPers {b : Nat → Int32} {n : Nat} {S : PS} (ok : okS n S) (h : (rPers b n S).1 = true) : okS n (rPers b n S).2 := by
  unfold rPers at h ⊢
  by_cases q : S.2.1.1.1 0 < 6
  · rw [if_pos q] at h ⊢
    have hl : nat (S.2.1.1.1 0) < 6 := by
      have h1 := ok.2.1
      have h2 := h1.2
      rw [h1.1] at q
      exact (nI_ltI (by omega) (by decide)).mp q
    refine bindP_ok (fun z => (nextP_t z).1) h (fun _ h => ?_)
    unfold rPers1 at h ⊢
    by_cases q2 : findP (stepP b n S) < 0
    · rw [if_pos q2] at h ⊢
      refine bindP_ok (fun z => (numP_t z).1) h (fun _ h => ?_)
      exact okS_step ((okS_step (okS_step ok)).pers hl)
    · rw [if_neg q2] at h; cases h
  · rw [if_neg q] at h; cases h
theorem okS_rJune {b : Nat → Int32} {n : Nat} {S : PS} (ok : okS n S) (h : (rJune b n S).1 = true) : okS n (rJune b n S).2 := by
  unfold rJune at h ⊢
  by_cases q : S.2.1.1.1 5 < 12
  · rw [if_pos q] at h ⊢
    refine bindP_ok (fun z => (persP_t z).1) h (fun _ h => ?_)
    unfold rJune1 at h ⊢
    refine bindP_ok (fun z => (numP_t z).1) h (fun _ h => ?_)
    unfold rJune2 at h ⊢
    split at h
    · cases h
    · rename_i q2
      rw [if_neg q2]
      exact okS_step (okS_step (okS_step ok))
  · rw [if_neg q] at h; cases h
theorem okS_rDraft {b : Nat → Int32} {n : Nat} {S : PS} (ok : okS n S) (h : (rDraft b n S).1 = true) : okS n (rDraft b n S).2 := by
  unfold rDraft at h ⊢
  by_cases q : S.2.1.1.1 12 = 0
  · rw [if_pos q] at h ⊢
    exact bindP_ok (fun z => (numP_t z).1) h (fun _ h => okS_step (okS_step ok))
  · rw [if_neg q] at h; cases h
theorem okS_rSeed {b : Nat → Int32} {n : Nat} {S : PS} (ok : okS n S) (h : (rSeed b n S).1 = true) : okS n (rSeed b n S).2 := by
  unfold rSeed at h ⊢
  by_cases q : S.2.1.1.1 13 = 0
  · rw [if_pos q] at h ⊢
    exact bindP_ok (fun z => (numP_t z).1) h (fun _ h => okS_step (okS_step ok))
  · rw [if_neg q] at h; cases h
theorem okS_rLend {b : Nat → Int32} {n : Nat} {S : PS} (ok : okS n S) (h : (rLend b n S).1 = true) : okS n (rLend b n S).2 := by
  unfold rLend at h ⊢
  by_cases q : S.2.1.1.1 6 < 8
  · rw [if_pos q] at h ⊢
    refine bindP_ok (fun z => (persP_t z).1) h (fun _ h => ?_)
    unfold rLend1 at h ⊢
    refine bindP_ok (fun z => (persP_t z).1) h (fun _ h => ?_)
    unfold rLend2 at h ⊢
    split at h
    · cases h
    · rename_i q2
      rw [if_neg q2]
      split at h
      · rename_i q3
        rw [if_pos q3]
        exact okS_step (okS_step (okS_step ok))
      · cases h
  · rw [if_neg q] at h; cases h
theorem okS_rLight {b : Nat → Int32} {n : Nat} {S : PS} (ok : okS n S) (h : (rLight b n S).1 = true) : okS n (rLight b n S).2 := by
  unfold rLight at h ⊢
  by_cases q : dFull S.2.1.2.1 = true
  · rw [if_pos q] at h; cases h
  · rw [if_neg q] at h ⊢
    have hl := okD_lt ok.2.2.1 (by simpa using q)
    refine bindP_ok (fun z => (persP_t z).1) h (fun _ h => ?_)
    unfold rLight1 at h ⊢
    refine bindP_ok (fun z => (numP_t z).1) h (fun _ h => ?_)
    unfold rLight2 at h ⊢
    refine bindP_ok (fun z => (numP_t z).1) h (fun _ h => ?_)
    have okS2 := okS_step (b := b) (okS_step (b := b) (okS_step (b := b) ok))
    exact okS_step ⟨okS2.1, okS2.2.1, okD_add okS2.2.2.1 hl, okS2.2.2.2⟩
theorem okS_rBlow {b : Nat → Int32} {n : Nat} {S : PS} (ok : okS n S) (h : (rBlow b n S).1 = true) : okS n (rBlow b n S).2 := by
  unfold rBlow at h ⊢
  by_cases q : dFull S.2.1.2.2.1 = true
  · rw [if_pos q] at h; cases h
  · rw [if_neg q] at h ⊢
    have hl := okD_lt ok.2.2.2.1 (by simpa using q)
    refine bindP_ok (fun z => (persP_t z).1) h (fun _ h => ?_)
    unfold rBlow1 at h ⊢
    refine bindP_ok (fun z => (numP_t z).1) h (fun _ h => ?_)
    unfold rBlow2 at h ⊢
    refine bindP_ok (fun z => (numP_t z).1) h (fun _ h => ?_)
    have okS2 := okS_step (b := b) (okS_step (b := b) (okS_step (b := b) ok))
    exact okS_step ⟨okS2.1, okS2.2.1, okS2.2.2.1, okD_add okS2.2.2.2.1 hl, okS2.2.2.2.2⟩
theorem okS_rLaw {b : Nat → Int32} {n : Nat} {S : PS} (ok : okS n S) (h : (rLaw b n S).1 = true) : okS n (rLaw b n S).2 := by
  unfold rLaw rLaw0 at h ⊢
  split at h
  · cases h
  · rename_i q1
    rw [if_neg q1]
    split at h
    · rename_i q2
      rw [if_pos q2]
      unfold rLaw1 at h ⊢
      split at h
      · cases h
      · rename_i q3
        rw [if_neg q3]
        unfold rLaw2 at h ⊢
        have okb : okE n (begP (stepP b n (stepP b n S))) := okS_step (okS_step ok)
        refine bindP_ok (fun z => Prod.ext z rfl) h (fun z h => ?_)
        exact (okE_exprP 701 true true _ okb z).toS
    · cases h
theorem okS_line {b : Nat → Int32} {n : Nat} {S : PS} (ok : okS n S) (h : (lineP b n S).1 = true) : okS n (lineP b n S).2 := by
  unfold lineP at h ⊢
  by_cases q0 : S.1.2.1 = 0
  · rw [if_pos q0] at h ⊢; exact okS_rPers ok h
  · rw [if_neg q0] at h ⊢
    by_cases q1 : S.1.2.1 = 1
    · rw [if_pos q1] at h ⊢; exact okS_rJune ok h
    · rw [if_neg q1] at h ⊢
      by_cases q2 : S.1.2.1 = 2
      · rw [if_pos q2] at h ⊢; exact okS_rLight ok h
      · rw [if_neg q2] at h ⊢
        by_cases q3 : S.1.2.1 = 3
        · rw [if_pos q3] at h ⊢; exact okS_rBlow ok h
        · rw [if_neg q3] at h ⊢
          by_cases q4 : S.1.2.1 = 4
          · rw [if_pos q4] at h ⊢; exact okS_rLend ok h
          · rw [if_neg q4] at h ⊢
            by_cases q5 : S.1.2.1 = 5
            · rw [if_pos q5] at h ⊢; exact okS_rDraft ok h
            · rw [if_neg q5] at h ⊢
              by_cases q6 : S.1.2.1 = 6
              · rw [if_pos q6] at h ⊢; exact okS_rSeed ok h
              · rw [if_neg q6] at h ⊢
                by_cases q7 : S.1.2.1 = 7
                · rw [if_pos q7] at h ⊢; exact okS_rLaw ok h
                · rw [if_neg q7] at h; cases h
