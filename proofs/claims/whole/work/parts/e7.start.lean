/-! THE LAW'S START: both objects made anew -/
theorem cBegin_z : cBegin (zS (fun _ => 0) (fun _ => 0)) zT.1 = zS (fun _ => 0) (fun _ => 0) := by
  unfold cBegin zT zS
  refine Prod.ext (funext fun k => ?_) (Prod.ext (funext fun k => ?_) (Prod.ext (funext fun k => ?_) rfl)) <;> simp [upd, uR]
theorem ok0 (b : Nat) (h : 0 < b) : okN 0 b := ⟨rfl, h⟩
theorem relT_z : relT zT zM.2.1 := by
  refine ⟨⟨ok0 7 (by decide), rfl, fun p hp => absurd hp (Nat.not_lt_zero _)⟩, ⟨ok0 13 (by decide), rfl, fun k hk => absurd hk (Nat.not_lt_zero _), fun j k _ hk => absurd hk (Nat.not_lt_zero _), fun p _ => rfl⟩, ⟨ok0 13 (by decide), rfl, fun k hk => absurd hk (Nat.not_lt_zero _)⟩, ⟨ok0 9 (by decide), rfl, fun k hk => absurd hk (Nat.not_lt_zero _)⟩, ⟨ok0 9 (by decide), rfl, fun k hk => absurd hk (Nat.not_lt_zero _), fun p _ => rfl⟩, ⟨rfl, rfl⟩, ok0 65 (by decide), rfl, fun k hk => absurd hk (Nat.not_lt_zero _), fun r _ => ⟨rfl, rfl, ok0 65 (by decide), ok0 65 (by decide), Nat.le_refl _, Nat.le_refl _, fun z => absurd z (Nat.lt_irrefl _)⟩⟩
theorem wfT_z : wfT zT := ⟨ok0 7 (by decide), ⟨ok0 13 (by decide), fun k hk => absurd hk (Nat.not_lt_zero _)⟩, ⟨ok0 13 (by decide), fun k hk => absurd hk (Nat.not_lt_zero _)⟩, fun k _ => ⟨ok0 65 (by decide), ok0 65 (by decide)⟩⟩
theorem INV.start {N : Nat} {s' : St} (hf : frR 0 zM s') (hr : s'.2.1 36 0 = 0 ∧ s'.2.1 37 0 = zM.2.1 3 6 ∧ s'.2.1 38 0 = 0 ∧ s'.2.1 39 0 = 0) (hz : ∀ k p, 40 ≤ k → k ≤ 43 → p < 6 → s'.2.1 k (6 * 0 + p) = 0) : INV (zB0 N) s' := by
  have r : ∀ k, k < 36 ∨ 43 < k → s'.2.1 k = fun _ => 0 := fun k hk => hf.2.1 k (by omega)
  have q : ∀ j, j ≠ 35 → s'.1 j = zM.1 j := hf.1
  have hqui : qui s' := ⟨(q 46 (by decide)).trans rfl, (q 48 (by decide)).trans rfl⟩
  have hT : relT zT s'.2.1 := relT_z.kept (fun k hk => hf.2.1 k (by omega))
  have h36 : s'.2.1 3 6 = zM.2.1 3 6 := by rw [r 3 (by omega)]; rfl
  have hM := MU.begun (T := zT) (c := zS (fun _ => 0) (fun _ => 0)) (g := zS (fun _ => 0) (fun _ => 0)) (u := zS (fun _ => 0) (fun _ => 0)) hqui ((q 47 (by decide)).trans rfl) hT ((q 44 (by decide)).trans rfl) ((q 45 (by decide)).trans rfl) ⟨hr.1, hr.2.1.trans h36.symm, hr.2.2⟩ hz rfl
  rw [cBegin_z] at hM
  refine ⟨false, 0, 0, 0, [], wfT_z, ok0 101 (by decide), hM, ⟨ok0 25 (by decide), (q 55 (by decide)).trans rfl, (q 56 (by decide)).trans rfl, Or.inl rfl, fun k hk => ?_, fun k hk => absurd hk (Nat.not_lt_zero _)⟩, rfl, ⟨rfl, (q 2 (by decide)).trans rfl, by omega, (r 1 (by omega)).symm, fun k hk => absurd hk (Nat.not_lt_zero _)⟩, ⟨(q 29 (by decide)).trans rfl, (q 30 (by decide)).trans rfl⟩, ⟨rfl, trivial, rfl, rfl⟩, ⟨rfl, rfl, rfl⟩, ⟨rfl, rfl⟩⟩
  rw [r 57 (by omega), r 58 (by omega), r 59 (by omega), r 60 (by omega), r 61 (by omega)]
  exact ⟨rfl, rfl, rfl, rfl, rfl⟩
