/-! draft is 100 at most; what holds all through the law's run -/
def drB (S : PS) : Int32 := S.2.1.1.1 10
section Drb
variable {b : Nat → Int32} {n : Nat} {S : PS}
theorem drb_bind {r : Bool × PS} {k : PS → Bool × PS} (h1 : drB r.2 = drB S) (h2 : ∀ S1, drB S1 = drB S → drB (k S1).2 = drB S) : drB (bindP r k).2 = drB S := by
  unfold bindP
  split
  · exact h2 _ h1
  · exact h1
theorem drb_num {lo hi : Int32} : drB (numP lo hi S).2 = drB S := by
  unfold numP
  repeat' split
  all_goals rfl
theorem drb_next {k : Int32} : drB (nextP k S).2 = drB S := by
  unfold nextP
  split <;> rfl
theorem drb_pers : drB (persP S).2 = drB S := by
  unfold persP
  repeat' split
  all_goals rfl
theorem drb_step : drB (stepP b n S) = drB S := rfl
theorem drb_rPers : drB (rPers b n S).2 = drB S := by
  unfold rPers
  split
  · refine drb_bind drb_next (fun S1 h1 => ?_)
    unfold rPers1
    split
    · exact drb_bind (drb_num.trans h1) (fun S2 h2 => h2)
    · exact h1
  · rfl
theorem drb_rJune : drB (rJune b n S).2 = drB S := by
  unfold rJune
  split
  · refine drb_bind drb_pers (fun S1 h1 => drb_bind (drb_num.trans h1) (fun S2 h2 => ?_))
    unfold rJune2
    split
    · exact h2
    · exact h2
  · rfl
theorem drb_rDraft (h : okN (drB S) 101) : okN (drB (rDraft b n S).2) 101 := by
  unfold rDraft
  split
  · unfold bindP
    split
    · rename_i h1
      obtain ⟨e, -, h2, h3⟩ := numP_t h1
      rw [e]
      exact okN_le (q := (stepP b n S).1) (l := 0) (u := 100) ⟨(numP_t h1).2.1, h2, h3⟩ (by decide) (by decide)
    · show okN (drB (numP 0 100 (stepP b n S)).2) 101
      rw [drb_num]
      exact h
  · exact h
theorem drb_rSeed : drB (rSeed b n S).2 = drB S := by
  unfold rSeed
  split
  · exact drb_bind drb_num (fun S1 h1 => h1)
  · rfl
theorem drb_rLight : drB (rLight b n S).2 = drB S := by
  unfold rLight
  split
  · rfl
  · exact drb_bind drb_pers (fun S1 h1 => drb_bind (drb_num.trans h1) (fun S2 h2 => drb_bind (drb_num.trans h2) (fun S3 h3 => h3)))
theorem drb_rBlow : drB (rBlow b n S).2 = drB S := by
  unfold rBlow
  split
  · rfl
  · exact drb_bind drb_pers (fun S1 h1 => drb_bind (drb_num.trans h1) (fun S2 h2 => drb_bind (drb_num.trans h2) (fun S3 h3 => h3)))
theorem drb_rLend : drB (rLend b n S).2 = drB S := by
  unfold rLend
  split
  · refine drb_bind drb_pers (fun S1 h1 => drb_bind (drb_pers.trans h1) (fun S2 h2 => ?_))
    unfold rLend2
    repeat' split
    all_goals exact h2
  · rfl
theorem drb_knot : drB (knotP S).2 = drB S := by
  unfold knotP
  split <;> rfl
theorem drb_place {lv : Int32} : drB (placeP lv S) = drB S := rfl
theorem drb_leaf : drB (leafP S).2 = drB S := by
  have h : drB (leaf2 S).2 = drB S := drb_bind drb_knot (fun S1 h1 => h1)
  unfold leafP
  repeat' split
  all_goals first | exact h | rfl
theorem drb_part {m : Bool} : drB (partP m S).2 = drB S := by
  unfold partP
  repeat' split
  all_goals first | rfl | exact drb_leaf | exact drb_bind drb_knot (fun S1 h1 => h1)
theorem drb_bin {k : Int32} : drB (binP k S).2 = drB S := by
  have h : ∀ S1, drB S1 = drB S → drB (bin2 k S1).2 = drB S := fun S1 h1 => drb_bind (drb_knot.trans h1) (fun S2 h2 => h2)
  unfold binP
  repeat' split
  all_goals first | exact h _ rfl | rfl
theorem drb_expr : ∀ (f : Nat) (w m : Bool) (S : PS), drB (exprP b n f w m S).2 = drB S := by
  intro f
  induction f with
  | zero => intro w m S; rfl
  | succ f ih =>
    intro w m S
    rw [exprP]
    split
    · exact drb_bind drb_part (fun S1 h1 => (ih _ _ _).trans h1)
    · split
      · exact drb_bind drb_bin (fun S1 h1 => (ih _ _ _).trans h1)
      · split
        · rfl
        · split
          · exact ih _ _ _
          · rfl
theorem drb_rLaw : drB (rLaw b n S).2 = drB S := by
  have h : ∀ i S1, drB (rLaw2 b n i S1).2 = drB S1 := fun i S1 => drb_bind (drb_expr _ _ _ _) (fun S2 h2 => h2)
  unfold rLaw rLaw0 rLaw1
  repeat' split
  all_goals first | rfl | exact h _ _
theorem drb_line (h : okN (drB S) 101) : okN (drB (lineP b n S).2) 101 := by
  unfold lineP
  split
  · rw [drb_rPers]; exact h
  · skip
    split
    · rw [drb_rJune]; exact h
    · skip
      split
      · rw [drb_rLight]; exact h
      · skip
        split
        · rw [drb_rBlow]; exact h
        · skip
          split
          · rw [drb_rLend]; exact h
          · skip
            split
            · exact drb_rDraft h
            · skip
              split
              · rw [drb_rSeed]; exact h
              · skip
                split
                · rw [drb_rLaw]; exact h
                · skip
                  exact h
theorem drb_read : ∀ (f i : Nat) (S : PS), okN (drB S) 101 → okN (drB (readP b n f i S).2) 101 := by
  intro f
  induction f with
  | zero => intro i S h; exact h
  | succ f ih =>
    intro i S h
    rw [readP]
    have h1 := drb_line (b := b) (n := n) h
    repeat' split
    · exact h
    · exact ih _ _ h1
    · show okN (drB (nextP 30 (lineP b n S).2).2) 101
      rw [drb_next]
      exact h1
    · exact h1
end Drb
theorem mIn_no {s s' : St} (h1 : ∀ j, 33 ≤ j → s'.1 j = s.1 j) (h2 : ∀ k, 3 ≤ k → k ≤ 19 → ∀ i, i < hl k → s'.2.1 k i = s.2.1 k i) {p : Nat} (hp : p < 6) : mIn s' p = mIn s p := by
  unfold mIn
  rw [h1 48 (by decide), h1 49 (by decide), h2 5 (by decide) (by decide) p hp]
theorem relT.no {T : Tx} {s s' : St} (hT : relT T s.2.1) (g : ∀ k, 3 ≤ k → k ≤ 19 → ∀ i, i < hl k → s'.2.1 k i = s.2.1 k i) : relT T s'.2.1 := by
  have n1 := hT.1.1.2
  have n2 := hT.2.1.1.2
  have n3 := hT.2.2.1.1.2
  have n4 := hT.2.2.2.1.1.2
  have n5 := hT.2.2.2.2.1.1.2
  have n6 := hT.2.2.2.2.2.2.1.2
  refine hT.ext (fun i hi => g 3 (by decide) (by decide) i hi) (fun i hi => ⟨g 4 (by decide) (by decide) i (by show i < 6; omega), g 5 (by decide) (by decide) i (by show i < 6; omega)⟩) (fun i hi => ⟨g 6 (by decide) (by decide) i (by show i < 12; omega), g 7 (by decide) (by decide) i (by show i < 12; omega)⟩) (fun i hi => ⟨g 8 (by decide) (by decide) i (by show i < 12; omega), g 9 (by decide) (by decide) i (by show i < 12; omega), g 10 (by decide) (by decide) i (by show i < 12; omega)⟩) (fun i hi => ⟨g 11 (by decide) (by decide) i (by show i < 8; omega), g 12 (by decide) (by decide) i (by show i < 8; omega), g 13 (by decide) (by decide) i (by show i < 8; omega)⟩) (fun i hi => ⟨g 14 (by decide) (by decide) i (by show i < 8; omega), g 15 (by decide) (by decide) i (by show i < 8; omega)⟩) (fun i hi => ⟨g 16 (by decide) (by decide) i hi, g 17 (by decide) (by decide) i hi⟩) (fun i hi => ⟨g 18 (by decide) (by decide) i (by show i < 64; omega), g 19 (by decide) (by decide) i (by show i < 64; omega)⟩)
theorem Rm.no {T : Tx} {s s' c : St} {r : Nat} (h : Rm T s r c) (h1 : ∀ j, 33 ≤ j → s'.1 j = s.1 j) (h2 : ∀ k, 19 < k → s'.2.1 k = s.2.1 k) (g : ∀ k, 3 ≤ k → k ≤ 19 → ∀ i, i < hl k → s'.2.1 k i = s.2.1 k i) : Rm T s' r c := by
  obtain ⟨hT, ⟨a0, a1, a2, a3, a4, a5, a6⟩, hW⟩ := h
  have n1 := hT.1.1.2
  have n0 := hT.1.2.1
  refine ⟨hT.no g, ⟨a0, ?_, ?_, ?_, ?_, ?_, fun p hp => ?_⟩, hW⟩
  · rw [h2 36 (by decide)]; exact a1
  · rw [h2 37 (by decide)]; exact a2
  · rw [h2 38 (by decide)]; exact a3
  · rw [h2 39 (by decide)]; exact a4
  · rw [h2 40 (by decide), h2 41 (by decide), h2 42 (by decide), h2 43 (by decide)]; exact a5
  · rw [mIn_no h1 g (by rw [n0] at hp; omega)]; exact a6 p hp
/-- all that holds between two calls: hi: there is an IMAGE; t: the TAPE's length -/
def INV (S : FS) (s2 : St) : Prop := ∃ (hi : Bool) (t pl o : Nat) (l : List Int32), wfT S.2.1.1 ∧ okN (S.2.1.1.1.1 10) 101 ∧ MU S.2.1.1 S.2.2.1.1 S.2.2.1.2.1 S.2.2.2.1 hi s2 ∧ facR S.2.1.1 s2 S.2.2.2.2.1 ∧ S.1.1 7 = bI hi ∧ (S.1.1 1 = nI t ∧ s2.1 2 = nI t ∧ t ≤ 700 ∧ S.1.2.1 0 = s2.2.1 1 ∧ ∀ k, k < t → ¬ s2.2.1 1 k = -1 ∧ s2.2.1 1 k < 256) ∧ (s2.1 29 = S.2.2.2.2.2.2.2.1.1 0 ∧ s2.1 30 = S.2.2.2.2.2.2.2.1.1 1) ∧ (S.2.2.2.2.2.2.2.2.1 4 = nI pl ∧ isW (S.2.2.2.2.2.2.2.1.2.1 4) l ∧ S.2.2.2.2.2.2.2.1.1 5 = nI l.length ∧ S.2.2.2.2.2.2.2.1.1 6 = nI o) ∧ (S.2.1.1.2.1.1 1 = 12 ∧ S.2.1.1.2.2.1.1 1 = 8 ∧ S.2.1.1.2.2.2.1 0 = S.2.1.1.2.2.2.1 1) ∧ (S.2.1.2.2.1.1 1 = 12 ∧ S.2.1.2.2.2.1.1 1 = 8)
section Inv
variable {s T1 s2 s3 : St} {T T2 : Tx} {c g th u F k pa tu rd tk : St}
theorem INV.X (h : INV (mkF s T T2 c g th u F k pa tu rd tk) s2) (f : frX s2 s3) : INV (mkF s T T2 c g th u F k pa tu rd tk) s3 := by
  obtain ⟨hi, t, pl, o, l, i1, i2, i3, i4, i5, ⟨i6, i7, i8, i9, i10⟩, ⟨i11, i12⟩, i13⟩ := h
  have e1 : s3.2.1 1 = s2.2.1 1 := f.2.1 1 (by decide) (by decide) (by decide)
  exact ⟨hi, t, pl, o, l, i1, i2, i3.X f, i4.fr (f.1 55 (by decide) (by decide) (by decide)) (f.1 56 (by decide) (by decide) (by decide)) (fun k a b => f.2.1 k (by omega) (by omega) (by omega)), i5, ⟨i6, (f.1 2 (by decide) (by decide) (by decide)).trans i7, i8, by rw [e1]; exact i9, by rw [e1]; exact i10⟩, ⟨(f.1 29 (by decide) (by decide) (by decide)).trans i11, (f.1 30 (by decide) (by decide) (by decide)).trans i12⟩, i13⟩
/-- what a call uses for itself, in the class -/
theorem INV.S {s' th' k' pa' tu' : St} (h : INV (mkF s T T2 c g th u F k pa tu rd tk) s2) (e1 : s'.1 = s.1) (e2 : s'.2.1 0 = s.2.1 0) : INV (mkF s' T T2 c g th' u F k' pa' tu' rd tk) s2 := by
  obtain ⟨hi, t, pl, o, l, i1, i2, i3, i4, i5, ⟨i6, i7, i8, i9, i10⟩, i11⟩ := h
  exact ⟨hi, t, pl, o, l, i1, i2, i3, i4, (by show s'.1 7 = bI hi; rw [e1]; exact i5), ⟨by show s'.1 1 = nI t; rw [e1]; exact i6, i7, i8, by show s'.2.1 0 = s2.2.1 1; rw [e2]; exact i9, i10⟩, i11⟩
theorem frL.X {s s' : St} (h : frL s s') (hq : s.1 48 = -1) : frX (mI s 49 (s'.1 49)) s' := by
  obtain ⟨⟨a1, a2, a3, a4⟩, b⟩ := h
  refine ⟨fun j h0 h1 h2 => ?_, a2, a3, a4⟩
  show s'.1 j = upd s.1 49 (s'.1 49) j
  by_cases q9 : j = 49
  · subst q9; simp [upd]
  · rw [upd_ne q9]
    by_cases q8 : j = 48
    · subst q8; rw [b, hq]
    · exact a1 j h0 h1 q8 q9 h2
theorem Rm.i49 {x : Int32} {r : Nat} (h : Rm T s2 r c) (hq : qui s2) : Rm T (mI s2 49 x) r c := by
  obtain ⟨hT, ⟨a0, a1, a2, a3, a4, a5, a6⟩, hW⟩ := h
  have n1 := hT.1.1.2
  have n0 := hT.1.2.1
  have hq2 : qui (mI s2 49 x) := hq
  refine ⟨hT, ⟨a0, a1, a2, a3, a4, a5, fun p hp => ?_⟩, hW⟩
  have hp6 : p < 6 := by rw [n0] at hp; omega
  have := a6 p hp
  rw [hq.mIn hp6] at this
  rw [hq2.mIn hp6]
  exact this
theorem INV.i49 {x : Int32} (h : INV (mkF s T T2 c g th u F k pa tu rd tk) s2) : INV (mkF s T T2 c g th u F k pa tu rd tk) (mI s2 49 x) := by
  obtain ⟨hi, t, pl, o, l, i1, i2, ⟨m1, m2, m3, m4, m5, m6, m7, m8⟩, i4, i5⟩ := h
  exact ⟨hi, t, pl, o, l, i1, i2, ⟨m1, m2, m3.i49 m1, m4, fun q => (m5 q).i49 m1, m6, m7, fun j hj => ⟨(m8 j hj).1, (m8 j hj).2.i49 m1⟩⟩, i4, i5⟩
theorem INV.L (h : INV (mkF s T T2 c g th u F k pa tu rd tk) s2) (f : frL s2 s3) : INV (mkF s T T2 c g th u F k pa tu rd tk) s3 := by
  have hq : s2.1 48 = -1 := by obtain ⟨hi, t, pl, o, l, i1, i2, i3, i4⟩ := h; exact i3.1.2
  exact h.i49.X (f.X hq)
theorem INV.okC (h : INV (mkF s T T2 c g th u F k pa tu rd tk) s2) : okC T c := by
  obtain ⟨hi, t, pl, o, l, i1, i2, i3, i4⟩ := h
  exact ⟨i3.2.2.1.2.1.1, fun p hp => (i3.2.2.1.2.1.2.2.2.2.2.2 p hp).2, i3.2.2.1.2.2⟩
/-- candles by call: c, g, u, the IMAGE -/
theorem INV.D {c' g' u' s' k' : St} {hi' : Bool} (h : INV (mkF s T T2 c g th u F k pa tu rd tk) s2) (hM : MU T c' g' u' hi' s3) (f : frD s2 s3) (e7 : s'.1 7 = bI hi') (e1 : s'.1 1 = s.1 1) (e2 : s'.2.1 0 = s.2.1 0) : INV (mkF s' T T2 c' g' th u' F k' pa tu rd tk) s3 := by
  obtain ⟨hi, t, pl, o, l, i1, i2, i3, i4, i5, ⟨i6, i7, i8, i9, i10⟩, ⟨i11, i12⟩, i13⟩ := h
  have r1 : s3.2.1 1 = s2.2.1 1 := f.2 1 (by decide)
  exact ⟨hi', t, pl, o, l, i1, i2, hM, i4.fr (f.1 55 (by decide) (by decide) (by decide) (by decide)) (f.1 56 (by decide) (by decide) (by decide) (by decide)) (fun k a b => f.2 k (by omega)), e7, ⟨e1.trans i6, (f.1 2 (by decide) (by decide) (by decide) (by decide)).trans i7, i8, by show s'.2.1 0 = _; rw [r1, e2]; exact i9, by rw [r1]; exact i10⟩, ⟨(f.1 29 (by decide) (by decide) (by decide) (by decide)).trans i11, (f.1 30 (by decide) (by decide) (by decide) (by decide)).trans i12⟩, i13⟩
/-- FACTS -/
theorem INV.fac {F' : St} (h : INV (mkF s T T2 c g th u F k pa tu rd tk) s2) (hF : facR T s3 F') (f : frF s2 s3) : INV (mkF s T T2 c g th u F' k pa tu rd tk) s3 := by
  obtain ⟨hi, t, pl, o, l, i1, i2, i3, i4, i5, ⟨i6, i7, i8, i9, i10⟩, ⟨i11, i12⟩, i13⟩ := h
  have r1 : s3.2.1 1 = s2.2.1 1 := f.2 1 (by decide)
  exact ⟨hi, t, pl, o, l, i1, i2, i3.F f, hF, i5, ⟨i6, (f.1 2 (by decide) (by decide) (by decide)).trans i7, i8, by rw [r1]; exact i9, by rw [r1]; exact i10⟩, ⟨(f.1 29 (by decide) (by decide) (by decide)).trans i11, (f.1 30 (by decide) (by decide) (by decide)).trans i12⟩, i13⟩
end Inv
