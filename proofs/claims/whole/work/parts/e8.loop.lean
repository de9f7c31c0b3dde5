/-! THE LAW'S LOOP -/
theorem nI6 {Ln i : Nat} (h1 : Ln ≤ 3072) (h2 : i ≤ 3078) (h : ¬ Int32.ofNat Ln - 6 < nI i) : i + 6 ≤ Ln := by
  by_cases q : 6 ≤ Ln
  · have e : Int32.ofNat Ln - 6 = nI (Ln - 6) := nI_subI (I := Ln) (l := 6) q
    rw [e] at h
    have := nI_le_of (n := i) (b := Ln - 6) (by omega) (by omega) h
    omega
  · refine absurd ?_ h
    have h0 : Int32.ofNat Ln - 6 < 0 := (show ∀ L, L < 6 → Int32.ofNat L - 6 < 0 by decide) Ln (by omega)
    exact Int32.lt_of_lt_of_le h0 (Int32.not_lt.mp (nI_nlt0 i (by omega)))
section Loop
variable {κ : Kd} {N b Ln i : Nat} {xs : Nat → Int32} {gr ca sl : Nat} {S : FS} {s2 : St} {f : Nat → Int64}
theorem lw_tail (ih : Lpr κ N b Ln xs gr ca sl S s2 f 23 (LL N b (i + 6)) []) : Lpr κ N b Ln xs gr ca sl S s2 f 1515 (LL N b i) [] := by
  refine Lpr.iinc (L2 := LL N b (i + 6)) (v := nI 6) dL_law_1515 rfl rfl (by decide) ?_ ?_
  · have e : nI i + nI 6 = nI (i + 6) := nI_add i 6
    show sto1 4 (.int (nI i + nI 6)) (LL N b i) = _
    rw [e]
    rfl
  · exact Lpr.goto 23 dL_law_1518 rfl ih
theorem Lpr.tswG {dflt lo hi : Int} {offs : Array Int} {len : Nat} {x : Int32} {pc : Nat} {L : List (Option Value)} {rest : List Value} (ts : List (Int32 × Nat)) (td : Nat) (hdg : decode code pc = .ok (.tableswitch dflt lo hi offs, len)) (htd : (pc : Int) + dflt = (td : Int)) (hok : tsOk pc lo hi offs td ts = true)
    (kin : ∀ q ∈ ts, x = q.1 → Lpr κ N b Ln xs gr ca sl S s2 f q.2 L rest) (kout : (∀ q ∈ ts, ¬ x = q.1) → Lpr κ N b Ln xs gr ca sl S s2 f td L rest) : Lpr κ N b Ln xs gr ca sl S s2 f pc L (.int x :: rest) := fun h H => LW.tswG ts td hdg htd hok (fun q hq e => kin q hq e h H) (fun z => kout z h H)
theorem lw_loop (hLn : Ln ≤ 3072) : ∀ (k i gr ca sl : Nat) (S : FS) (s2 : St) (f : Nat → Int64), INV S s2 → Ln < i + 6 * k + 6 → i ≤ 3078 → ca + k ≤ 601024 → sl + 6 * k ≤ 7293034 → Lpr κ N b Ln xs gr ca sl S s2 f 23 (LL N b i) [] := by
  intro k
  induction k with
  | zero =>
    intro i gr ca sl S s2 f hI h1 h2 h3 h4
    refine Lpr.iload dL_law_23 rfl ?_
    refine Lpr.aload_n dL_law_25 rfl ?_
    refine Lpr.slen dL_law_26 ?_
    refine Lpr.bipush (v := 6) dL_law_27 (by decide) ?_
    refine Lpr.isub dL_law_29 ?_
    refine Lpr.icmp_gt 1521 dL_law_30 rfl (fun _ => ?_) (fun z => absurd (nI6 hLn h2 z) (by omega))
    refine Lpr.iconst dL_law_1521 rfl ?_
    exact fun h H => LW.end (by omega) (by omega) dL_law_1522
  | succ k ih =>
    intro i gr ca sl S s2 f hI h1 h2 h3 h4
    refine Lpr.iload dL_law_23 rfl ?_
    refine Lpr.aload_n dL_law_25 rfl ?_
    refine Lpr.slen dL_law_26 ?_
    refine Lpr.bipush (v := 6) dL_law_27 (by decide) ?_
    refine Lpr.isub dL_law_29 ?_
    refine Lpr.icmp_gt 1521 dL_law_30 rfl (fun _ => ?_) (fun z => ?_)
    · refine Lpr.iconst dL_law_1521 rfl ?_
      exact fun h H => LW.end (by omega) (by omega) dL_law_1522
    · have hi6 := nI6 hLn h2 z
      have hca : ca ≤ 601024 ∧ sl ≤ 7293034 := ⟨by omega, by omega⟩
      have kk : ∀ (S' : FS) (s2' : St), INV S' s2' → Lpr κ N b Ln xs gr ca sl S' s2' f 1515 (LL N b i) [] := fun S' s2' hI' => lw_tail (ih (i + 6) gr ca sl S' s2' f hI' (by omega) (by omega) (by omega) (by omega))
      have kk4 : ∀ (gr' : Nat) (s2' : St) (f' : Nat → Int64), INV S s2' → Lpr κ N b Ln xs gr' (ca + 1) (sl + 6) S s2' f' 1515 (LL N b i) [] := fun gr' s2' f' hI' => lw_tail (ih (i + 6) gr' (ca + 1) (sl + 6) S s2' f' hI' (by omega) (by omega) (by omega) (by omega))
      refine Lpr.aload_n dL_law_33 rfl ?_
      refine Lpr.iload dL_law_34 rfl ?_
      refine Lpr.sld (j := i) rfl (by omega) (by omega) dL_law_36 ?_
      refine Lpr.bipush (v := 63) dL_law_37 (by decide) ?_
      refine Lpr.iand dL_law_39 ?_
      exact Lpr.tswG [(0, 204), (1, 277), (2, 302), (3, 327), (4, 352), (5, 420), (6, 457), (7, 482), (8, 507), (9, 545), (10, 582), (11, 619), (12, 668), (13, 693), (14, 742), (15, 767), (16, 804), (17, 841), (18, 879), (19, 928), (20, 941), (21, 966), (22, 991), (23, 1028), (24, 1065), (25, 1114), (26, 1152), (27, 1229), (28, 1254), (29, 1279), (30, 1304), (31, 1341), (32, 1402), (33, 1451), (34, 1464), (35, 1477), (36, 1490)] 1515 dL_law_40 rfl (by decide +kernel) (fa_cons (fun _ => lc_0 hI hi6 hLn hca kk) (fa_cons (fun _ => lc_1 hI hi6 hLn hca kk) (fa_cons (fun _ => lc_2 hI hi6 hLn hca kk) (fa_cons (fun _ => lc_3 hI hi6 hLn hca kk) (fa_cons (fun _ => lc_4 hI hi6 hLn ⟨by omega, by omega⟩ kk4) (fa_cons (fun _ => lc_5 hI hi6 hLn hca kk) (fa_cons (fun _ => lc_6 hI hi6 hLn hca kk) (fa_cons (fun _ => lc_7 hI hi6 hLn hca kk) (fa_cons (fun _ => lc_8 hI hi6 hLn hca kk) (fa_cons (fun _ => lc_9 hI hi6 hLn hca kk) (fa_cons (fun _ => lc_10 hI hi6 hLn hca kk) (fa_cons (fun _ => lc_11 hI hi6 hLn hca kk) (fa_cons (fun _ => lc_12 hI hi6 hLn hca kk) (fa_cons (fun _ => lc_13 hI hi6 hLn hca kk) (fa_cons (fun _ => lc_14 hI hi6 hLn hca kk) (fa_cons (fun _ => lc_15 hI hi6 hLn hca kk) (fa_cons (fun _ => lc_16 hI hi6 hLn hca kk) (fa_cons (fun _ => lc_17 hI hi6 hLn hca kk) (fa_cons (fun _ => lc_18 hI hi6 hLn hca kk) (fa_cons (fun _ => lc_19 hI hi6 hLn hca kk) (fa_cons (fun _ => lc_20 hI hi6 hLn hca kk) (fa_cons (fun _ => lc_21 hI hi6 hLn hca kk) (fa_cons (fun _ => lc_22 hI hi6 hLn hca kk) (fa_cons (fun _ => lc_23 hI hi6 hLn hca kk) (fa_cons (fun _ => lc_24 hI hi6 hLn hca kk) (fa_cons (fun _ => lc_25 hI hi6 hLn hca kk) (fa_cons (fun _ => lc_26 hI hi6 hLn hca kk) (fa_cons (fun _ => lc_27 hI hi6 hLn hca kk) (fa_cons (fun _ => lc_28 hI hi6 hLn hca kk) (fa_cons (fun _ => lc_29 hI hi6 hLn hca kk) (fa_cons (fun _ => lc_30 hI hi6 hLn hca kk) (fa_cons (fun _ => lc_31 hI hi6 hLn hca kk) (fa_cons (fun _ => lc_32 hI hi6 hLn hca kk) (fa_cons (fun _ => lc_33 hI hi6 hLn hca kk) (fa_cons (fun _ => lc_34 hI hi6 hLn hca kk) (fa_cons (fun _ => lc_35 hI hi6 hLn hca kk) (fa_cons (fun _ => lc_36 hI hi6 hLn hca kk) (fa_nil)))))))))))))))))))))))))))))))))))))) (fun _ => kk S s2 hI)
end Loop
