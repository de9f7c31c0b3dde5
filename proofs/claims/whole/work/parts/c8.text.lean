/-! How many LIGHTS, BLOWS there may be is kept by all reading -/
def cap2 (S : PS) : Int32 × Int32 := (S.2.1.2.1.1 1, S.2.1.2.2.1.1 1)
section Cap
variable {b : Nat → Int32} {n : Nat} {S : PS}
theorem cap_bind {r : Bool × PS} {k : PS → Bool × PS} (h1 : cap2 r.2 = cap2 S) (h2 : ∀ S1, cap2 S1 = cap2 S → cap2 (k S1).2 = cap2 S) : cap2 (bindP r k).2 = cap2 S := by
  unfold bindP
  split
  · exact h2 _ h1
  · exact h1
theorem cap_num {lo hi : Int32} : cap2 (numP lo hi S).2 = cap2 S := by
  unfold numP
  repeat' split
  all_goals rfl
theorem cap_next {k : Int32} : cap2 (nextP k S).2 = cap2 S := by
  unfold nextP
  split <;> rfl
theorem cap_pers : cap2 (persP S).2 = cap2 S := by
  unfold persP
  repeat' split
  all_goals rfl
theorem cap_step : cap2 (stepP b n S) = cap2 S := rfl
theorem cap_rPers : cap2 (rPers b n S).2 = cap2 S := by
  unfold rPers
  split
  · refine cap_bind cap_next (fun S1 h1 => ?_)
    unfold rPers1
    split
    · exact cap_bind (cap_num.trans h1) (fun S2 h2 => h2)
    · exact h1
  · rfl
theorem cap_rJune : cap2 (rJune b n S).2 = cap2 S := by
  unfold rJune
  split
  · refine cap_bind cap_pers (fun S1 h1 => cap_bind (cap_num.trans h1) (fun S2 h2 => ?_))
    unfold rJune2
    split
    · exact h2
    · exact h2
  · rfl
theorem cap_rDraft : cap2 (rDraft b n S).2 = cap2 S := by
  unfold rDraft
  split
  · exact cap_bind cap_num (fun S1 h1 => h1)
  · rfl
theorem cap_rSeed : cap2 (rSeed b n S).2 = cap2 S := by
  unfold rSeed
  split
  · exact cap_bind cap_num (fun S1 h1 => h1)
  · rfl
theorem cap_rLight : cap2 (rLight b n S).2 = cap2 S := by
  unfold rLight
  split
  · rfl
  · exact cap_bind cap_pers (fun S1 h1 => cap_bind (cap_num.trans h1) (fun S2 h2 => cap_bind (cap_num.trans h2) (fun S3 h3 => h3)))
theorem cap_rBlow : cap2 (rBlow b n S).2 = cap2 S := by
  unfold rBlow
  split
  · rfl
  · exact cap_bind cap_pers (fun S1 h1 => cap_bind (cap_num.trans h1) (fun S2 h2 => cap_bind (cap_num.trans h2) (fun S3 h3 => h3)))
theorem cap_rLend : cap2 (rLend b n S).2 = cap2 S := by
  unfold rLend
  split
  · refine cap_bind cap_pers (fun S1 h1 => cap_bind (cap_pers.trans h1) (fun S2 h2 => ?_))
    unfold rLend2
    repeat' split
    all_goals exact h2
  · rfl
theorem cap_knot : cap2 (knotP S).2 = cap2 S := by
  unfold knotP
  split <;> rfl
theorem cap_place {lv : Int32} : cap2 (placeP lv S) = cap2 S := rfl
theorem cap_leaf : cap2 (leafP S).2 = cap2 S := by
  have h : cap2 (leaf2 S).2 = cap2 S := cap_bind cap_knot (fun S1 h1 => h1)
  unfold leafP
  repeat' split
  all_goals first | exact h | rfl
theorem cap_part {m : Bool} : cap2 (partP m S).2 = cap2 S := by
  unfold partP
  repeat' split
  all_goals first | rfl | exact cap_leaf | exact cap_bind cap_knot (fun S1 h1 => h1)
theorem cap_bin {k : Int32} : cap2 (binP k S).2 = cap2 S := by
  have h : ∀ S1, cap2 S1 = cap2 S → cap2 (bin2 k S1).2 = cap2 S := fun S1 h1 => cap_bind (cap_knot.trans h1) (fun S2 h2 => h2)
  unfold binP
  repeat' split
  all_goals first | exact h _ rfl | rfl
theorem cap_expr : ∀ (f : Nat) (w m : Bool) (S : PS), cap2 (exprP b n f w m S).2 = cap2 S := by
  intro f
  induction f with
  | zero => intro w m S; rfl
  | succ f ih =>
    intro w m S
    rw [exprP]
    split
    · exact cap_bind cap_part (fun S1 h1 => (ih _ _ _).trans h1)
    · split
      · exact cap_bind cap_bin (fun S1 h1 => (ih _ _ _).trans h1)
      · split
        · rfl
        · split
          · exact ih _ _ _
          · rfl
theorem cap_rLaw : cap2 (rLaw b n S).2 = cap2 S := by
  have h : ∀ i S1, cap2 (rLaw2 b n i S1).2 = cap2 S1 := fun i S1 => cap_bind (cap_expr _ _ _ _) (fun S2 h2 => h2)
  unfold rLaw rLaw0 rLaw1
  repeat' split
  all_goals first | rfl | exact h _ _
theorem cap_line : cap2 (lineP b n S).2 = cap2 S := by
  unfold lineP
  split
  · exact cap_rPers
  · skip
    split
    · exact cap_rJune
    · skip
      split
      · exact cap_rLight
      · skip
        split
        · exact cap_rBlow
        · skip
          split
          · exact cap_rLend
          · skip
            split
            · exact cap_rDraft
            · skip
              split
              · exact cap_rSeed
              · skip
                split
                · exact cap_rLaw
                · skip
                  rfl
theorem cap_read : ∀ (f i : Nat) (S : PS), cap2 (readP b n f i S).2 = cap2 S := by
  intro f
  induction f with
  | zero => intro i S; rfl
  | succ f ih =>
    intro i S
    rw [readP]
    repeat' split
    · rfl
    · exact (ih _ _).trans cap_line
    · exact cap_next.trans cap_line
    · exact cap_line
end Cap
