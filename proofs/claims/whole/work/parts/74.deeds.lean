/-! The model: light, blow, cut, go, undo, keep, back -/
/-- undone so many times, of so many -/
def uLv (u : St) : Nat → Nat → St → St
  | 0, _, c => c
  | k + 1, z, c => uLv u k (z - 1) (uPopC u (z - 1) (nat (u.2.1 1 (z - 1))) c)
theorem uLv_congr {u v : St} : ∀ (k z : Nat) (c : St), k ≤ z → (∀ r j, j < z → v.2.1 r j = u.2.1 r j) → uLv v k z c = uLv u k z c := by
  intro k
  induction k with
  | zero => intro z c _ _; rfl
  | succ k ih =>
    intro z c hz h
    unfold uLv uPopC
    rw [h 1 (z - 1) (by omega), h 2 (z - 1) (by omega), h 3 (z - 1) (by omega), h 4 (z - 1) (by omega)]
    exact ih (z - 1) _ (by omega) (fun r j hj => h r j (by omega))
theorem uLv_shift {u v : St} : ∀ (k z : Nat) (c : St), k ≤ z → (∀ r j, 1 ≤ r → r ≤ 4 → j < z → v.2.1 r j = u.2.1 r (j + 1)) → uLv v k z c = uLv u k (z + 1) c := by
  intro k
  induction k with
  | zero => intro z c _ _; rfl
  | succ k ih =>
    intro z c hz h
    obtain ⟨y, rfl⟩ : ∃ y, z = y + 1 := ⟨z - 1, by omega⟩
    unfold uLv uPopC
    simp only [Nat.add_sub_cancel]
    rw [h 1 y (by decide) (by decide) (by omega), h 2 y (by decide) (by decide) (by omega), h 3 y (by decide) (by decide) (by omega), h 4 y (by decide) (by decide) (by omega)]
    exact ih y _ (by omega) (fun r j a b hj => h r j a b (by omega))
theorem pop_put {u c c' : St} {z p : Nat} (h1 : c'.1 = c.1) (h2 : c'.2.2 = c.2.2) (h3 : ∀ k i, ¬ (3 ≤ k ∧ k ≤ 5 ∧ i = p) → c'.2.1 k i = c.2.1 k i) (e2 : u.2.1 2 z = c.2.1 3 p) (e3 : u.2.1 3 z = c.2.1 4 p) (e4 : u.2.1 4 z = c.2.1 5 p) : uPopC u z p c' = c := by
  unfold uPopC
  rw [h1, h2, e2, e3, e4]
  have : uA (uA (uA c'.2.1 3 p (c.2.1 3 p)) 4 p (c.2.1 4 p)) 5 p (c.2.1 5 p) = c.2.1 := by
    funext k i
    unfold uA upd
    by_cases k5 : k = 5
    · subst k5
      rw [if_pos rfl]
      split
      · rename_i e; rw [e]
      · rw [if_neg (by decide), if_neg (by decide)]; exact h3 5 i (by omega)
    · rw [if_neg k5]
      by_cases k4 : k = 4
      · subst k4
        rw [if_pos rfl]
        split
        · rename_i e; rw [e]
        · rw [if_neg (by decide)]; exact h3 4 i (by omega)
      · rw [if_neg k4]
        by_cases k3 : k = 3
        · subst k3
          rw [if_pos rfl]
          split
          · rename_i e; rw [e]
          · exact h3 3 i (by omega)
        · rw [if_neg k3]; exact h3 k i (by omega)
  rw [this]
theorem uA_miss {f : Nat → Nat → Int32} {r i k j : Nat} {v : Int32} (h : ¬ (k = r ∧ j = i)) : uA f r i v k j = f k j := by
  unfold uA upd
  by_cases e : k = r
  · subst e
    rw [if_pos rfl, if_neg (fun q => h ⟨rfl, q⟩)]
  · rw [if_neg e]
def undR (T : Tx) (s u c : St) : Prop := okN (u.1 0) 21 ∧ s.1 45 = u.1 0 ∧ ∀ j, j < nat (u.1 0) → okN (u.2.1 1 j) (nat (T.1.1 0)) ∧ Rm T s (3 + j) (uLv u (nat (u.1 0) - j) (nat (u.1 0)) c)
/-- what the model keeps of candles -/
def MU (T : Tx) (c g u : St) (hi : Bool) (s : St) : Prop := qui s ∧ s.1 47 = -1 ∧ Rm T s 0 c ∧ s.1 44 = bI hi ∧ (hi = true → Rm T s 2 g) ∧ undR T s u c
/-- only candles change -/
def frD (s s' : St) : Prop := (∀ j, j ≠ 0 → j ≠ 35 → j ≠ 44 → j ≠ 45 → s'.1 j = s.1 j) ∧ ∀ k, ¬ (36 ≤ k ∧ k ≤ 43) → s'.2.1 k = s.2.1 k
theorem frD.K {s s' : St} (h : frK s s') : frD s s' := ⟨fun j _ a _ b => h.1 j a b, h.2⟩
theorem frD.rf {s : St} : frD s s := frD.K frK.rf
theorem frD.tr {s1 s2 s3 : St} (h : frD s1 s2) (k : frD s2 s3) : frD s1 s3 := ⟨fun j a b c e => (k.1 j a b c e).trans (h.1 j a b c e), fun j a => (k.2 j a).trans (h.2 j a)⟩
theorem frD.z {s : St} {x : Int32} : frD s (mI s 0 x) := ⟨fun j h _ _ _ => upd_ne h, fun _ _ => rfl⟩
theorem frD.i {s : St} {x : Int32} : frD s (mI s 44 x) := ⟨fun j _ _ h _ => upd_ne h, fun _ _ => rfl⟩
theorem MU.z {T : Tx} {c g u s : St} {hi : Bool} {x : Int32} (h : MU T c g u hi s) : MU T c g u hi (mI s 0 x) := h
theorem frX.Rr {T : Tx} {s s' c : St} {r : Nat} (h : frX s s') (hr : ¬ r = 1) (hR : Rm T s r c) : Rm T s' r c := ⟨h.T hR.1, h.C hr hR.2.1, hR.2.2⟩
theorem MU.X {T : Tx} {c g u s s' : St} {hi : Bool} (h : MU T c g u hi s) (f : frX s s') : MU T c g u hi s' := by
  obtain ⟨a1, a2, a3, a4, a5, a6, a7, a8⟩ := h
  exact ⟨a1.fr f, (f.1 47 (by decide) (by decide) (by decide)).trans a2, f.Rr (by decide) a3, (f.1 44 (by decide) (by decide) (by decide)).trans a4, fun z => f.Rr (by decide) (a5 z), a6, (f.1 45 (by decide) (by decide) (by decide)).trans a7, fun j hj => ⟨(a8 j hj).1, f.Rr (by omega) (a8 j hj).2⟩⟩
/-- one more that can be undone -/
theorem MU.push {T : Tx} {c c' g u s s1 s2 : St} {hi : Bool} {z p : Nat} (h : MU T c g u hi s) (hz : u.1 0 = nI z ∧ nat (u.1 0) = z) (hp : p < nat (T.1.1 0)) (hp6 : p < 6)
    (k45 : s1.1 45 = nI ((if z = 20 then 19 else z) + 1)) (kf : frK s s1) (k0 : rmE s 0 s1 (3 + (if z = 20 then 19 else z))) (kr : ∀ r, r < 3 → rmE s r s1 r) (kj : ∀ j, j < (if z = 20 then 19 else z) → rmE s (3 + j + (if z = 20 then 1 else 0)) s1 (3 + j))
    (f : frR 0 s1 s2) (hR : Rm T s2 0 c') (h1 : c'.1 = c.1) (h2 : c'.2.2 = c.2.2) (h3 : ∀ k i, ¬ (3 ≤ k ∧ k ≤ 5 ∧ i = p) → c'.2.1 k i = c.2.1 k i) : MU T c' g (uPut u z p c) hi s2 := by
  obtain ⟨a1, a2, a3, a4, a5, a6, a7, a8⟩ := h
  have hz20 : z ≤ 20 := by have := a6.2; omega
  have hn : nat (u.1 0) = z := hz.2
  rw [hn] at a8
  have fk : frK s s2 := kf.tr (frK.R f)
  have hsz : ∀ y, (uPush y (if z = 20 then 19 else z) p c).1 0 = nI ((if z = 20 then 19 else z) + 1) := fun _ => rfl
  have hput : uPut u z p c = uPush (if z = 20 then uShift u else u) (if z = 20 then 19 else z) p c := by
    unfold uPut
    split <;> rfl
  rw [hput]
  have hz2 : (if z = 20 then 19 else z) < 20 := by split <;> omega
  generalize hzz : (if z = 20 then 19 else z) = zz at *
  have hrow : ∀ y r j, j < zz → (uPush y zz p c).2.1 r j = y.2.1 r j := by
    intro y r j hj
    show uA (uA (uA (uA y.2.1 1 zz (nI p)) 2 zz (c.2.1 3 p)) 3 zz (c.2.1 4 p)) 4 zz (c.2.1 5 p) r j = _
    rw [uA_miss (by omega), uA_miss (by omega), uA_miss (by omega), uA_miss (by omega)]
  have htop : ∀ y, (uPush y zz p c).2.1 1 zz = nI p ∧ (uPush y zz p c).2.1 2 zz = c.2.1 3 p ∧ (uPush y zz p c).2.1 3 zz = c.2.1 4 p ∧ (uPush y zz p c).2.1 4 zz = c.2.1 5 p := by
    intro y
    refine ⟨?_, ?_, ?_, ?_⟩
    · show uA (uA (uA (uA y.2.1 1 zz (nI p)) 2 zz (c.2.1 3 p)) 3 zz (c.2.1 4 p)) 4 zz (c.2.1 5 p) 1 zz = _
      rw [uA_ne (by decide), uA_ne (by decide), uA_ne (by decide), uA_at, if_pos rfl]
    · show uA (uA (uA (uA y.2.1 1 zz (nI p)) 2 zz (c.2.1 3 p)) 3 zz (c.2.1 4 p)) 4 zz (c.2.1 5 p) 2 zz = _
      rw [uA_ne (by decide), uA_ne (by decide), uA_at, if_pos rfl]
    · show uA (uA (uA (uA y.2.1 1 zz (nI p)) 2 zz (c.2.1 3 p)) 3 zz (c.2.1 4 p)) 4 zz (c.2.1 5 p) 3 zz = _
      rw [uA_ne (by decide), uA_at, if_pos rfl]
    · show uA (uA (uA (uA y.2.1 1 zz (nI p)) 2 zz (c.2.1 3 p)) 3 zz (c.2.1 4 p)) 4 zz (c.2.1 5 p) 4 zz = _
      rw [uA_at, if_pos rfl]
  generalize hy : (if z = 20 then uShift u else u) = y at *
  obtain ⟨t1, t2, t3, t4⟩ := htop y
  have hnz : nat ((uPush y zz p c).1 0) = zz + 1 := by rw [hsz]; exact nI_clamp (by omega)
  have hpop : uPopC (uPush y zz p c) zz p c' = c := pop_put h1 h2 h3 t2 t3 t4
  have hnp : nat ((uPush y zz p c).2.1 1 zz) = p := by rw [t1]; exact nI_clamp (by omega)
  have hlv : ∀ k, uLv (uPush y zz p c) (k + 1) (zz + 1) c' = uLv (uPush y zz p c) k zz c := by
    intro k
    rw [uLv]
    simp only [Nat.add_sub_cancel]
    rw [hnp, hpop]
  refine ⟨fk.q a1, (fk.1 47 (by decide) (by decide)).trans a2, hR, (fk.1 44 (by decide) (by decide)).trans a4, fun q => ((kr 2 (by decide)).tr (rmE.fr f (by decide))).R (a5 q) fk, okN.of (hsz y) (by omega) (by decide), (f.1 45 (by decide)).trans (k45.trans (hsz y).symm), fun j hj => ?_⟩
  rw [hnz] at hj ⊢
  by_cases e : j = zz
  · subst e
    refine ⟨by rw [t1]; exact okN.of rfl hp (by have := a3.1.1.1.2; rw [a3.1.1.2.1]; omega), ?_⟩
    rw [show j + 1 - j = 0 + 1 by omega, hlv 0]
    exact (k0.tr (rmE.fr f (by omega))).R a3 fk
  · have hj2 : j < zz := by omega
    rw [show zz + 1 - j = (zz - j) + 1 by omega, hlv, uLv_congr _ _ _ (by omega) (fun r i hi => hrow y r i hi), hrow y 1 j hj2]
    by_cases q : z = 20
    · rw [if_pos q] at hzz hy
      subst hzz
      subst hy
      subst q
      have b := a8 (j + 1) (by omega)
      refine ⟨?_, ?_⟩
      · rw [show (uShift u).2.1 1 j = u.2.1 1 (j + 1) by show (if j < 19 then u.2.1 1 (j + 1) else u.2.1 1 j) = _; rw [if_pos hj2]]
        exact b.1
      · rw [uLv_shift (u := u) _ _ _ (by omega) (fun r i r1 r4 hi => ?_)]
        · have b2 := b.2
          rw [show 20 - (j + 1) = 19 - j by omega] at b2
          exact ((kj j hj2).tr (rmE.fr f (by omega))).R b2 fk
        · have hr : r = 1 ∨ r = 2 ∨ r = 3 ∨ r = 4 := by omega
          rcases hr with rfl | rfl | rfl | rfl
          · show (if i < 19 then u.2.1 1 (i + 1) else u.2.1 1 i) = _; rw [if_pos hi]
          · show (if i < 19 then u.2.1 2 (i + 1) else u.2.1 2 i) = _; rw [if_pos hi]
          · show (if i < 19 then u.2.1 3 (i + 1) else u.2.1 3 i) = _; rw [if_pos hi]
          · show (if i < 19 then u.2.1 4 (i + 1) else u.2.1 4 i) = _; rw [if_pos hi]
    · rw [if_neg q] at hzz hy
      subst hzz
      subst hy
      have b := a8 j hj2
      have kj2 := kj j hj2
      rw [if_neg q] at kj2
      exact ⟨b.1, (kj2.tr (rmE.fr f (by omega))).R b.2 fk⟩
