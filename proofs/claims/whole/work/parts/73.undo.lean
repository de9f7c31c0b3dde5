/-! The model: what is done by call, undone, images -/
/-- room r of s2 is as room q of s -/
def rmE (s : St) (q : Nat) (s2 : St) (r : Nat) : Prop := (∀ k, 36 ≤ k → k ≤ 39 → s2.2.1 k r = s.2.1 k q) ∧ ∀ k p, 40 ≤ k → k ≤ 43 → p < 6 → s2.2.1 k (6 * r + p) = s.2.1 k (6 * q + p)
theorem rmE.rf {s : St} {q : Nat} : rmE s q s q := ⟨fun _ _ _ => rfl, fun _ _ _ _ _ => rfl⟩
theorem rmE.tr {s1 s2 s3 : St} {a b c : Nat} (h : rmE s1 a s2 b) (k : rmE s2 b s3 c) : rmE s1 a s3 c := ⟨fun j x y => (k.1 j x y).trans (h.1 j x y), fun j p x y z => (k.2 j p x y z).trans (h.2 j p x y z)⟩
theorem rmE.fr {s s' : St} {r q : Nat} (f : frR r s s') (h : ¬ q = r) : rmE s q s' q := ⟨fun k a b => f.2.2.1 k q a b h, fun k p a b c => f.2.2.2 k _ a b (by omega)⟩
theorem rmE.C {T : Tx} {s s2 c : St} {q r : Nat} (e : rmE s q s2 r) (h : relC T s q c) (hi : ∀ p, mIn s2 p = mIn s p) : relC T s2 r c := by
  obtain ⟨a0, a1, a2, a3, a4, a5, a6⟩ := h
  refine ⟨a0, a1.trans (e.1 36 (by decide) (by decide)).symm, a2.trans (e.1 37 (by decide) (by decide)).symm, a3.trans (e.1 38 (by decide) (by decide)).symm, a4.trans (e.1 39 (by decide) (by decide)).symm, fun p hp => ?_, fun p hp => ?_⟩
  · obtain ⟨b1, b2, b3, b4⟩ := a5 p hp
    exact ⟨b1.trans (e.2 40 p (by decide) (by decide) hp).symm, b2.trans (e.2 41 p (by decide) (by decide) hp).symm, b3.trans (e.2 42 p (by decide) (by decide) hp).symm, b4.trans (e.2 43 p (by decide) (by decide) hp).symm⟩
  · rw [hi]
    exact a6 p hp
/-- only rooms change, and how many can be undone -/
def frK (s s' : St) : Prop := (∀ j, j ≠ 35 → j ≠ 45 → s'.1 j = s.1 j) ∧ ∀ k, ¬ (36 ≤ k ∧ k ≤ 43) → s'.2.1 k = s.2.1 k
theorem frK.rf {s : St} : frK s s := ⟨fun _ _ _ => rfl, fun _ _ => rfl⟩
theorem frK.tr {s1 s2 s3 : St} (h : frK s1 s2) (k : frK s2 s3) : frK s1 s3 := ⟨fun j a b => (k.1 j a b).trans (h.1 j a b), fun j a => (k.2 j a).trans (h.2 j a)⟩
theorem frK.R {r : Nat} {s s' : St} (h : frR r s s') : frK s s' := ⟨fun j a _ => h.1 j a, fun k a => h.2.1 k a⟩
theorem frK.u {s : St} {x : Int32} : frK s (mI s 45 x) := ⟨fun j _ b => upd_ne b, fun _ _ => rfl⟩
theorem frK.mIn {s s' : St} (h : frK s s') (p : Nat) : mIn s' p = mIn s p := by
  show (if nI p = s'.1 48 then s'.1 49 else s'.2.1 5 p) = if nI p = s.1 48 then s.1 49 else s.2.1 5 p
  rw [h.1 48 (by decide) (by decide), h.1 49 (by decide) (by decide), h.2 5 (by decide)]
theorem frK.T {T : Tx} {s s' : St} (h : frK s s') (hT : relT T s.2.1) : relT T s'.2.1 := hT.kept (fun k hk => h.2 k (by omega))
theorem frK.q {s s' : St} (h : frK s s') (hq : qui s) : qui s' := ⟨(h.1 46 (by decide) (by decide)).trans hq.1, (h.1 48 (by decide) (by decide)).trans hq.2⟩
theorem rmE.R {T : Tx} {s s2 c : St} {q r : Nat} (e : rmE s q s2 r) (h : Rm T s q c) (f : frK s s2) : Rm T s2 r c := ⟨f.T h.1, e.C h.2.1 f.mIn, h.2.2⟩
theorem m45 {s3 : St} {z : Nat} (h : s3.1 45 = nI z) : s3.1 45 + 1 = nI (z + 1) := by rw [h, nI_1]
set_option maxRecDepth 100000 in
set_option maxHeartbeats 1000000 in
theorem keepTail_M {d n0 a : Nat} {κ : Kd} {h0 : Hp} (hd : 2 ≤ d) {s2 : St} {z2 : Nat} (hzz : z2 < 20) (hz2 : s2.1 45 = nI z2) : MV MX12_keepNow (d, 0, 0, n0, κ) a h0 s2 45 [some (.ref a), none] [] (fun v s' => v = none ∧ ∃ s3, frR (3 + z2) s2 s3 ∧ rmE s2 0 s3 (3 + z2) ∧ s' = mI s3 45 (nI (z2 + 1))) := by
  refine MV.aload_n dX12_keepNow_45 rfl ?_
  refine MV.iconst (v := nI 3) dX12_keepNow_46 (by decide) ?_
  refine MV.aload_n dX12_keepNow_47 rfl ?_
  refine MV.getf 45 fl_X12_314 dX12_keepNow_48 (by decide) rfl ?_
  refine MV.iadd dX12_keepNow_51 ?_
  refine MV.eqi (nI (3 + z2)) (by rw [hz2]; exact nI_add 3 z2) ?_
  refine MV.iconst (v := nI 0) dX12_keepNow_52 (by decide) ?_
  refine MV.cV2 yoX12_copies ml_X12_441 im_X12_copies se_X12_copies dX12_keepNow_53 rfl (Nat.le_of_ble_eq_true rfl) (by omega) rfl (Nat.le_of_ble_eq_true rfl) (copies_M (r := 3 + z2) (q := 0) (by omega) (by omega) (by decide) (by omega)) ?_
  rintro _ s3 ⟨rfl, f3, h1, h2⟩
  refine MV.aload_n dX12_keepNow_56 rfl ?_
  refine MV.dup dX12_keepNow_57 rfl ?_
  refine MV.getf 45 fl_X12_314 dX12_keepNow_58 (by decide) rfl ?_
  refine MV.iconst (v := 1) dX12_keepNow_61 (by decide) ?_
  refine MV.iadd dX12_keepNow_62 ?_
  refine MV.eqi (nI (z2 + 1)) (m45 ((f3.1 45 (by decide)).trans hz2)) ?_
  refine MV.putf 45 fl_X12_314 dX12_keepNow_63 (by decide) rfl (rfl) (rfl) C12_s45 ?_
  refine MV.vret dX12_keepNow_66 rfl ?_
  exact ⟨rfl, s3, f3, ⟨h1, h2⟩, rfl⟩
set_option maxRecDepth 100000 in
set_option maxHeartbeats 2000000 in
theorem keepNow_M {d n0 a : Nat} {κ : Kd} {h0 : Hp} (hd : 3 ≤ d) {s : St} {z : Nat} (hz : s.1 45 = nI z) (hz2 : z ≤ 20) : MV MX12_keepNow (d, 0, 0, n0, κ) a h0 s 0 [some (.ref a), none] [] (fun v s' => v = none ∧ s'.1 45 = nI ((if z = 20 then 19 else z) + 1) ∧ frK s s' ∧ rmE s 0 s' (3 + (if z = 20 then 19 else z)) ∧ (∀ r, r < 3 → rmE s r s' r) ∧ ∀ j, j < (if z = 20 then 19 else z) → rmE s (3 + j + (if z = 20 then 1 else 0)) s' (3 + j)) := by
  refine MV.aload_n dX12_keepNow_0 rfl ?_
  refine MV.getf 45 fl_X12_314 dX12_keepNow_1 (by decide) rfl ?_
  refine MV.bipush (v := nI 20) dX12_keepNow_4 (by decide) ?_
  refine MV.icmp_ne 45 dX12_keepNow_6 (by decide) (fun c6 => ?_) (fun c6 => ?_)
  · skip
    have hz20 : ¬ z = 20 := fun q => c6 (by rw [hz, q])
    rw [if_neg hz20, if_neg hz20]
    refine MV.weak [some (.ref a), none] (by simp [leL]) ?_
    refine MV.post (fun w s' q => ?_) (keepTail_M (z2 := z) (by omega) (by omega) hz)
    obtain ⟨rfl, s3, f3, e3, rfl⟩ := q
    exact ⟨rfl, rfl, (frK.R f3).tr frK.u, e3, fun r hr => rmE.fr (s := s) (s' := s3) (q := r) f3 (by omega), fun j hj => rmE.fr (s := s) (s' := s3) (q := 3 + j) f3 (by omega)⟩
  · skip
    have hz20 : z = 20 := (nI_eq (by omega) (by decide)).mp (hz.symm.trans c6)
    subst hz20
    refine MV.iconst (v := nI 1) dX12_keepNow_9 (by decide) ?_
    refine MV.istore_n dX12_keepNow_10 (by decide) rfl ?_
    suffices hL : ∀ (j i : Nat) (s2 : St), i + j = 19 → frK s s2 → s2.1 45 = nI 20 → (∀ j, j < i → rmE s (3 + j + 1) s2 (3 + j)) → (∀ r, (r < 3 ∨ 3 + i ≤ r) → rmE s r s2 r) → MV MX12_keepNow (d, 0, 0, n0, κ) a h0 s2 11 [some (.ref a), some (.int (nI (i + 1)))] [] (fun v s' => v = none ∧ s'.1 45 = nI (19 + 1) ∧ frK s s' ∧ rmE s 0 s' (3 + 19) ∧ (∀ r, r < 3 → rmE s r s' r) ∧ ∀ j, j < 19 → rmE s (3 + j + 1) s' (3 + j)) from
      hL 19 0 s (by omega) frK.rf hz (fun j hj => by omega) (fun r _ => rmE.rf)
    intro j
    induction j with
    | zero =>
      intro i s2 hij f2 hz2 hr1 hr2
      have hi : i = 19 := by omega
      subst hi
      refine MV.iload_n dX12_keepNow_11 rfl ?_
      refine MV.bipush (v := nI 20) dX12_keepNow_12 (by decide) ?_
      refine MV.icmp_ge 35 dX12_keepNow_14 (by decide) (fun _ => ?_) (fun z => absurd (nI_le (a := 20) (by omega) (by omega)) z)
      refine MV.aload_n dX12_keepNow_35 rfl ?_
      refine MV.dup dX12_keepNow_36 rfl ?_
      refine MV.getf 45 fl_X12_314 dX12_keepNow_37 (by decide) rfl ?_
      refine MV.iconst (v := 1) dX12_keepNow_40 (by decide) ?_
      refine MV.isub dX12_keepNow_41 ?_
      refine MV.eqi (nI 19) (by rw [hz2]; decide) ?_
      refine MV.putf 45 fl_X12_314 dX12_keepNow_42 (by decide) rfl (rfl) (rfl) C12_s45 ?_
      refine MV.weak [some (.ref a), none] (by simp [leL]) ?_
      refine MV.post (fun w s' q => ?_) (keepTail_M (z2 := 19) (by omega) (by omega) rfl)
      obtain ⟨rfl, s3, f3, e3, rfl⟩ := q
      exact ⟨rfl, rfl, ((f2.tr frK.u).tr (frK.R f3)).tr frK.u, (hr2 0 (by omega)).tr e3, fun r hr => (hr2 r (by omega)).tr (rmE.fr (s := mI s2 45 (nI 19)) (s' := s3) (q := r) f3 (by omega)), fun j hj => (hr1 j (by omega)).tr (rmE.fr (s := mI s2 45 (nI 19)) (s' := s3) (q := 3 + j) f3 (by omega))⟩
    | succ j ih =>
      intro i s2 hij f2 hz2 hr1 hr2
      refine MV.iload_n dX12_keepNow_11 rfl ?_
      refine MV.bipush (v := nI 20) dX12_keepNow_12 (by decide) ?_
      refine MV.icmp_ge 35 dX12_keepNow_14 (by decide) (fun z => absurd z (nI_ge (b := 20) (by omega) (by omega))) (fun _ => ?_)
      refine MV.aload_n dX12_keepNow_17 rfl ?_
      refine MV.iconst (v := nI 3) dX12_keepNow_18 (by decide) ?_
      refine MV.iload_n dX12_keepNow_19 rfl ?_
      refine MV.iadd dX12_keepNow_20 ?_
      refine MV.iconst (v := 1) dX12_keepNow_21 (by decide) ?_
      refine MV.isub dX12_keepNow_22 ?_
      refine MV.eqi (nI (3 + i)) (by rw [nI_add, show 3 + (i + 1) = (3 + i) + 1 by omega]; exact nI_pred _) ?_
      refine MV.iconst (v := nI 3) dX12_keepNow_23 (by decide) ?_
      refine MV.iload_n dX12_keepNow_24 rfl ?_
      refine MV.iadd dX12_keepNow_25 ?_
      refine MV.eqi (nI (3 + (i + 1))) (nI_add _ _) ?_
      refine MV.cV2 yoX12_copies ml_X12_441 im_X12_copies se_X12_copies dX12_keepNow_26 rfl (Nat.le_of_ble_eq_true rfl) (by omega) rfl (Nat.le_of_ble_eq_true rfl) (copies_M (r := 3 + i) (q := 3 + (i + 1)) (by omega) (by omega) (by omega) (by omega)) ?_
      rintro _ s3 ⟨rfl, f3, h1, h2⟩
      refine MV.iinc (v := 1) dX12_keepNow_29 rfl (by decide) (by decide) rfl ?_
      refine MV.goto 11 dX12_keepNow_32 (by decide) ?_
      refine MV.weak [some (.ref a), some (.int (nI (i + 1 + 1)))] (by simp [leL, sto1, sto2, k2c, nI_1]) ?_
      refine ih (i + 1) _ (by omega) (f2.tr (frK.R f3)) ((f3.1 45 (by decide)).trans hz2) (fun j hj => ?_) (fun r hr => ?_)
      · by_cases e : j = i
        · subst e
          exact (hr2 (3 + (j + 1)) (by omega)).tr ⟨h1, h2⟩
        · exact (hr1 j (by omega)).tr (rmE.fr f3 (by omega))
      · exact (hr2 r (by omega)).tr (rmE.fr f3 (by omega))
