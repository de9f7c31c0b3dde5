/-! HOURS of one alone: what becomes of p doesn't hang on the others, nor on who looks -/
def eqP (p : Nat) (c e : St) : Prop := c.1 7 = e.1 7 ∧ c.1 10 = e.1 10 ∧ c.2.1 1 p = e.2.1 1 p ∧ c.2.1 3 p = e.2.1 3 p ∧ c.2.1 4 p = e.2.1 4 p ∧ c.2.1 5 p = e.2.1 5 p ∧ c.2.2.1 2 p = e.2.2.1 2 p
section Alone
variable {p q : Nat} {c e a : St} {T : Tx}
theorem eqP.rf : eqP p c c := ⟨rfl, rfl, rfl, rfl, rfl, rfl, rfl⟩
theorem eqP.sy (h : eqP p c e) : eqP p e c := ⟨h.1.symm, h.2.1.symm, h.2.2.1.symm, h.2.2.2.1.symm, h.2.2.2.2.1.symm, h.2.2.2.2.2.1.symm, h.2.2.2.2.2.2.symm⟩
theorem eqP.tr (h : eqP p c e) (k : eqP p e a) : eqP p c a := ⟨h.1.trans k.1, h.2.1.trans k.2.1, h.2.2.1.trans k.2.2.1, h.2.2.2.1.trans k.2.2.2.1, h.2.2.2.2.1.trans k.2.2.2.2.1, h.2.2.2.2.2.1.trans k.2.2.2.2.2.1, h.2.2.2.2.2.2.trans k.2.2.2.2.2.2⟩
theorem eqP.left (h : eqP p c e) : cLeft c p = cLeft e p := by unfold cLeft; rw [h.2.2.1, h.2.2.2.1, h.2.2.2.2.1]
theorem eqP.lit (h : eqP p c e) (x : Int32) : cLitB c p x = cLitB e p x := by unfold cLitB; rw [h.2.2.2.2.2.1]
theorem eqP.can (h : eqP p c e) (x : Int32) : cCan c p x = cCan e p x := by unfold cCan; rw [h.lit, h.left]
theorem eqP.isL (h : eqP p c e) (x : Int32) : cIsLeft c p x = cIsLeft e p x := by unfold cIsLeft; rw [h.2.2.1, h.2.2.2.1, h.2.2.2.2.1]
theorem eqP.jl (h : eqP p c e) : cJunesLeft c p = cJunesLeft e p := by unfold cJunesLeft cJunesIn; rw [h.2.2.1, h.2.2.2.1, h.2.2.2.2.1, h.2.2.2.2.2.2]
theorem eqP.own (h : eqP p c e) (w : Bool) : ownL c p w = ownL e p w := by
  funext k num
  unfold ownL
  rw [h.left, h.2.2.2.2.2.1, h.jl, h.2.2.2.1, h.2.2.2.2.1, h.1]
theorem eqP.tw (h : eqP p c e) (r : Nat) (w : Bool) : tW T r c p w = tW T r e p w := by unfold tW; rw [h.own]
theorem eqP.rc (h : eqP p c e) : aRec T c p = aRec T e p := by unfold aRec; rw [h.tw, h.jl]
theorem uA_sm {f : Nat → Nat → Int32} {k i : Nat} {v : Int32} : uA f k i v k i = v := by simp [uA, upd]
theorem uA_k {f : Nat → Nat → Int32} {k i j n : Nat} {v : Int32} (h : ¬ (j = k ∧ n = i)) : uA f k i v j n = f j n := by
  unfold uA
  split
  · rename_i e1
    subst e1
    exact upd_ne (fun z => h ⟨rfl, z⟩)
  · rfl
/-- row k of q is another -/
theorem eqP.row {k : Nat} {v : Int32} (hq : ¬ q = p) : eqP p (c.1, uA c.2.1 k q v, c.2.2) c :=
  ⟨rfl, rfl, uA_k (fun z => hq z.2.symm), uA_k (fun z => hq z.2.symm), uA_k (fun z => hq z.2.symm), uA_k (fun z => hq z.2.symm), rfl⟩
theorem eqP.row6 {v : Int32} : eqP p (c.1, uA c.2.1 6 q v, c.2.2) c :=
  ⟨rfl, rfl, (by show uA c.2.1 6 q v 1 p = c.2.1 1 p; exact uA_k (fun z => absurd z.1 (by decide))), (by show uA c.2.1 6 q v 3 p = c.2.1 3 p; exact uA_k (fun z => absurd z.1 (by decide))), (by show uA c.2.1 6 q v 4 p = c.2.1 4 p; exact uA_k (fun z => absurd z.1 (by decide))), (by show uA c.2.1 6 q v 5 p = c.2.1 5 p; exact uA_k (fun z => absurd z.1 (by decide))), rfl⟩
theorem eqP.int {k : Nat} {v : Int32} (hk : ¬ k = 7) (hk2 : ¬ k = 10) : eqP p (upd c.1 k v, c.2.1, c.2.2.1, c.2.2.2) c :=
  ⟨upd_ne (fun z => hk z.symm), upd_ne (fun z => hk2 z.symm), rfl, rfl, rfl, rfl, rfl⟩
theorem eqP.set5 {v : Int32} (h : eqP p c e) : eqP p (c.1, uA c.2.1 5 p v, c.2.2) (e.1, uA e.2.1 5 p v, e.2.2) :=
  ⟨h.1, h.2.1, h.2.2.1, h.2.2.2.1, h.2.2.2.2.1, by show uA c.2.1 5 p v 5 p = uA e.2.1 5 p v 5 p; rw [uA_sm, uA_sm], h.2.2.2.2.2.2⟩
theorem eqP.set3 {v : Int32} (h : eqP p c e) : eqP p (c.1, uA c.2.1 3 p v, c.2.2) (e.1, uA e.2.1 3 p v, e.2.2) :=
  ⟨h.1, h.2.1, h.2.2.1, by show uA c.2.1 3 p v 3 p = uA e.2.1 3 p v 3 p; rw [uA_sm, uA_sm], h.2.2.2.2.1, h.2.2.2.2.2.1, h.2.2.2.2.2.2⟩
theorem eqP.set4 {v : Int32} (h : eqP p c e) : eqP p (c.1, uA c.2.1 4 p v, c.2.2) (e.1, uA e.2.1 4 p v, e.2.2) :=
  ⟨h.1, h.2.1, h.2.2.1, h.2.2.2.1, by show uA c.2.1 4 p v 4 p = uA e.2.1 4 p v 4 p; rw [uA_sm, uA_sm], h.2.2.2.2.2.1, h.2.2.2.2.2.2⟩
theorem eqP.lo (h : eqP p c e) (x : Int32) : eqP p (cLightOrIdle c p x) (cLightOrIdle e p x) := by
  unfold cLightOrIdle
  rw [h.can]
  split
  · unfold cLight
    rw [h.2.2.2.2.2.1]
    exact h.set5
  · exact (eqP.int (by decide) (by decide)).tr (h.tr (eqP.int (by decide) (by decide)).sy)
theorem eqP.bo (h : eqP p c e) (x : Int32) : eqP p (cBlowOrIdle c p x) (cBlowOrIdle e p x) := by
  unfold cBlowOrIdle
  rw [h.lit]
  split
  · unfold cBlow
    rw [h.2.2.2.2.2.1]
    exact h.set5
  · exact (eqP.int (by decide) (by decide)).tr (h.tr (eqP.int (by decide) (by decide)).sy)
theorem eqP.lo' (hq : ¬ q = p) (x : Int32) : eqP p (cLightOrIdle c q x) c := by
  unfold cLightOrIdle
  split
  · exact eqP.row hq
  · exact eqP.int (by decide) (by decide)
theorem eqP.bo' (hq : ¬ q = p) (x : Int32) : eqP p (cBlowOrIdle c q x) c := by
  unfold cBlowOrIdle
  split
  · exact eqP.row hq
  · exact eqP.int (by decide) (by decide)
theorem eqP.sh (h : eqP p c e) (x y : Int32) : eqP p (cShorten c p x y) (cShorten e p x y) := by
  have h0 : eqP p (cShort0 c p x y) (cShort0 e p x y) := by
    unfold cShort0
    rw [h.left]
    split
    · rw [h.2.2.2.1]
      exact h.set3
    · rw [h.2.2.2.2.1]
      exact h.set4
  unfold cShorten cOut0
  rw [h0.left]
  split
  · exact h0.set5
  · exact h0
theorem eqP.sh' (hq : ¬ q = p) (x y : Int32) : eqP p (cShorten c q x y) c := by
  have h0 : eqP p (cShort0 c q x y) c := by
    unfold cShort0
    split
    · exact eqP.row hq
    · exact eqP.row hq
  unfold cShorten cOut0
  split
  · exact (eqP.row hq).tr h0
  · exact h0
theorem eqP.bE (h : eqP p c e) {nl x : Int32} {w : Bool} : eqP p (burnE T nl w p x c) (burnE T nl w p x e) := by
  unfold burnE
  rw [h.lit, show burnN T nl w p c = burnN T nl w p e by unfold burnN; rw [h.tw]]
  split
  · exact h.sh _ _
  · exact h
theorem eqP.bE' (hq : ¬ q = p) {nl x : Int32} {w : Bool} : eqP p (burnE T nl w q x c) c := by
  unfold burnE
  split
  · exact eqP.sh' hq _ _
  · exact eqP.rf
theorem eqP.bF (hp : p < 6) {m1 m2 unb nl : Int32} {w : Bool} (hm1 : litB m1 (nI p) = true) (hm2 : litB m2 (nI p) = true) : ∀ (k i : Nat) (c e : St), eqP p c e → eqP p (burnF T m1 unb nl w k i c) (burnF T m2 unb nl w k i e) := by
  intro k
  induction k with
  | zero => intro i c e h; exact h
  | succ k ih =>
    intro i c e h
    rw [burnF, burnF]
    refine ih _ _ _ ?_
    unfold burnP
    by_cases hi : i = p
    · subst hi
      rw [hm1, hm2]
      split
      · exact h.bE.bE
      · exact h
    · have f : ∀ (m : Int32) (c : St), eqP p (if litB m (nI i) = true ∧ ¬ nI i = unb then burnE T nl w i 1 (burnE T nl w i 0 c) else c) c := fun m c => by
        split
        · exact (eqP.bE' hi).tr (eqP.bE' hi)
        · exact eqP.rf
      exact (f _ _).tr (h.tr (f _ _).sy)
theorem eqP.lF {d : St} {N : Nat} (hd : wfD d N) (hN : N ≤ 6) {m1 m2 : Int32} (hm1 : litB m1 (nI p) = true) (hm2 : litB m2 (nI p) = true) : ∀ (k i : Nat) (c e : St), i + k = nat (d.1 0) → eqP p c e → eqP p (lightsF d m1 k i c) (lightsF d m2 k i e) := by
  intro k
  induction k with
  | zero => intro i c e _ h; exact h
  | succ k ih =>
    intro i c e hk h
    rw [lightsF, lightsF]
    refine ih _ _ _ (by omega) ?_
    have hw := (hd.2 i (by omega)).1
    by_cases hi : nat (d.2.1 2 i) = p
    · have e1 : d.2.1 2 i = nI p := by rw [← hi]; exact hw.1
      have e2 : dDue d i (c.1 7) m1 = dDue d i (e.1 7) m2 := by unfold dDue; rw [h.1, e1, hm1, hm2]
      rw [e2, hi]
      split
      · exact h.lo _
      · exact h
    · have f : ∀ (b : Bool) (c : St), eqP p (if b = true then cLightOrIdle c (nat (d.2.1 2 i)) (d.2.1 3 i) else c) c := fun m c => by
        split
        · exact eqP.lo' hi _
        · exact eqP.rf
      exact (f _ _).tr (h.tr (f _ _).sy)
theorem eqP.bf {d : St} {N : Nat} (hd : wfD d N) (hN : N ≤ 6) {m1 m2 : Int32} (hm1 : litB m1 (nI p) = true) (hm2 : litB m2 (nI p) = true) : ∀ (k i : Nat) (c e : St), i + k = nat (d.1 0) → eqP p c e → eqP p (blowsF d m1 k i c) (blowsF d m2 k i e) := by
  intro k
  induction k with
  | zero => intro i c e _ h; exact h
  | succ k ih =>
    intro i c e hk h
    rw [blowsF, blowsF]
    refine ih _ _ _ (by omega) ?_
    have hw := (hd.2 i (by omega)).1
    by_cases hi : nat (d.2.1 2 i) = p
    · have e1 : d.2.1 2 i = nI p := by rw [← hi]; exact hw.1
      have e2 : dDue d i (c.1 7) m1 = dDue d i (e.1 7) m2 := by unfold dDue; rw [h.1, e1, hm1, hm2]
      rw [e2, hi]
      split
      · exact h.bo _
      · exact h
    · have f : ∀ (b : Bool) (c : St), eqP p (if b = true then cBlowOrIdle c (nat (d.2.1 2 i)) (d.2.1 3 i) else c) c := fun m c => by
        split
        · exact eqP.bo' hi _
        · exact eqP.rf
      exact (f _ _).tr (h.tr (f _ _).sy)
theorem eqP.clb (hw : wfT T) {m1 m2 nb : Int32} (hm1 : litB m1 (nI p) = true) (hm2 : litB m2 (nI p) = true) (h : eqP p c e) : eqP p (cLB T m1 nb c) (cLB T m2 nb e) := by
  have hn : nat (T.1.1 0) ≤ 6 := by have := hw.1.2; omega
  have h1 := eqP.lF hw.2.1 hn hm1 hm2 (nat (T.2.1.1 0)) 0 c e (by omega) h
  unfold cLB
  simp only
  split
  · exact eqP.bf hw.2.2.1 hn hm1 hm2 (nat (T.2.2.1.1 0)) 0 _ _ (by omega) h1
  · exact h1
theorem eqP.wK {w : Int32} (h : eqP p c e) : (windK w T c).1 = (windK w T e).1 ∧ eqP p (windK w T c).2 (windK w T e).2 := by
  have g : (windN (T.1.1 10) c).1 = (windN (T.1.1 10) e).1 ∧ eqP p (windN (T.1.1 10) c).2 (windN (T.1.1 10) e).2 := by
    unfold windN
    split
    · exact ⟨rfl, h⟩
    · rw [h.2.1]
      exact ⟨rfl, h.1, rfl, h.2.2.1, h.2.2.2.1, h.2.2.2.2.1, h.2.2.2.2.2.1, h.2.2.2.2.2.2⟩
  unfold windK
  split
  · exact g
  · split
    · exact ⟨rfl, h⟩
    · split
      · exact ⟨rfl, h⟩
      · exact ⟨rfl, h⟩
theorem eqP.shine {w : Bool} {l : Int32} : ∀ (k i : Nat) (c : St), eqP p (shineF T w l k i c) c := by
  intro k
  induction k with
  | zero => intro i c; exact eqP.rf
  | succ k ih =>
    intro i c
    rw [shineF]
    refine (ih _ _).tr ?_
    have h1 : eqP p (seenS T l i c) c := by
      unfold seenS
      split
      · exact eqP.row6
      · exact eqP.rf
    refine eqP.tr ?_ h1
    unfold glowS
    split
    · exact eqP.rf
    · exact eqP.int (by decide) (by decide)
theorem eqP.hr (h : eqP p c e) : eqP p (upd c.1 7 (c.1 7 + 1), c.2.1, c.2.2.1, c.2.2.2) (upd e.1 7 (e.1 7 + 1), e.2.1, e.2.2.1, e.2.2.2) :=
  ⟨by simp [upd, h.1], by simp [upd, h.2.1], h.2.2.1, h.2.2.2.1, h.2.2.2.2.1, h.2.2.2.2.2.1, h.2.2.2.2.2.2⟩
theorem eqP.pass (hw : wfT T) (hp : p < 6) {m1 m2 : Int32} {l1 l2 : Bool} {k : Nat → Int32} (hm1 : litB m1 (nI p) = true) (hm2 : litB m2 (nI p) = true) (h : eqP p c e) : eqP p (passS T k m1 l1 c) (passS T k m2 l2 e) := by
  have h1 := eqP.clb hw (nb := k 3) hm1 hm2 h
  have h2 := eqP.wK (T := T) (w := k 1) h1
  unfold passS
  simp only
  have f : ∀ (l : Bool) (w : Bool) (li : Int32) (n : Nat) (c : St), eqP p (if l = true then shineF T w li n 0 c else c) c := fun l w li n c => by
    split
    · exact eqP.shine _ _ _
    · exact eqP.rf
  have h3 := (f l1 (windK (k 1) T (cLB T m1 (k 3) c)).1 (litM ((windK (k 1) T (cLB T m1 (k 3) c)).2.2.1 5) (nat (T.1.1 0))) (nat (T.1.1 0)) _).tr (h2.2.tr (f l2 (windK (k 1) T (cLB T m2 (k 3) e)).1 (litM ((windK (k 1) T (cLB T m2 (k 3) e)).2.2.1 5) (nat (T.1.1 0))) (nat (T.1.1 0)) _).sy)
  rw [h2.1] at h3 ⊢
  have h4 := eqP.bF (T := T) hp (unb := k 2) (nl := k 4) (w := (windK (k 1) T (cLB T m2 (k 3) e)).1) hm1 hm2 (nat (T.1.1 0)) 0 _ _ h3
  unfold hourS
  exact eqP.hr h4
theorem eqP.hours (hw : wfT T) (hp : p < 6) {m1 m2 : Int32} {l1 l2 : Bool} {k : Nat → Int32} (hm1 : litB m1 (nI p) = true) (hm2 : litB m2 (nI p) = true) : ∀ (n : Nat) (c e : St), eqP p c e → eqP p (hoursS T k m1 l1 n c) (hoursS T k m2 l2 n e) := by
  intro n
  induction n with
  | zero => intro c e h; exact h
  | succ n ih => intro c e h; rw [hoursS, hoursS]; exact ih _ _ (eqP.pass hw hp hm1 hm2 h)
end Alone
