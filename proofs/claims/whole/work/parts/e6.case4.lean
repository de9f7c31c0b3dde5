/-! THE LAW: the case of man -/
theorem thrown_M {d n0 a : Nat} {κ : Kd} {h0 : Hp} {s : St} : MV MX12_thrown (d, 0, 0, n0, κ) a h0 s 0 [some (.ref a)] [] (mR s (.int (s.1 0))) := by
  refine MV.aload_n dX12_thrown_0 rfl ?_
  refine MV.getf 0 fl_X12_148 dX12_thrown_1 (by decide) rfl ?_
  refine MV.iret dX12_thrown_4 rfl ?_
  exact ⟨rfl, rfl⟩
section Case4
variable {κ : Kd} {N b Ln i : Nat} {xs : Nat → Int32} {gr ca sl : Nat} {S : FS} {s2 : St} {f : Nat → Int64}
theorem lc_4 (hI : INV S s2) (hi : i + 6 ≤ Ln) (hLn : Ln ≤ 3072) (hca : ca + 1 ≤ 601024 ∧ sl + 6 ≤ 7293034) (kk : ∀ (gr' : Nat) (s2' : St) (f' : Nat → Int64), INV S s2' → Lpr κ N b Ln xs gr' (ca + 1) (sl + 6) S s2' f' 1515 (LL N b i) []) : Lpr κ N b Ln xs gr ca sl S s2 f 352 (LL N b i) [] := by
  obtain ⟨s, ⟨T, T2⟩, ⟨c, g, th⟩, u, F, k, ⟨pa, tu⟩, rd, tk⟩ := S
  obtain ⟨hi', t, pl, o, l, hw, hD, hM, -⟩ := id hI
  have hq : qui s2 := hM.1
  have hR : Rm T s2 0 c := hM.2.2.1
  have hp : c.1 0 = T.1.1 0 := hR.2.1.1
  have hw : wfT T := hw
  refine Lpr.aload_n dL_law_352 rfl ?_
  refine Lpr.rd (j := 1) rfl rfl dL_law_353 dL_law_354 dL_law_356 rfl dL_law_357 dL_law_358 (by omega) hLn ?_
  refine Lpr.rd (j := 2) rfl rfl dL_law_359 dL_law_360 dL_law_362 rfl dL_law_363 dL_law_364 (by omega) hLn ?_
  refine Lpr.aload_n dL_law_365 rfl ?_
  intro h H
  refine LW.callMan (As := [.ref N, .int (xs (i + 1)), .int (xs (i + 2)), .ref (N + 165)]) dL_law_366 rfl rfl (Nat.le_of_ble_eq_true rfl) hca rfl (Nat.le_of_ble_eq_true rfl) (lman_X (by omega) hw hp H) ?_
  rintro r h' gr' ⟨rfl, f', H', hf⟩
  have hca2 : ca + 1 ≤ 601024 ∧ sl + 6 ≤ 7293034 := hca
  suffices X : Lpr κ N b Ln xs gr' (ca + 1) (sl + 6) (mkF s T T2 c g th u F k pa tu rd tk) s2 f' 369 (LL N b i) [.int (aManC T (xs (i + 1)) (xs (i + 2)))] from X h' H'
  have hf : aManC T (xs (i + 1)) (xs (i + 2)) = 0 → f' 0 = (aManV T c (nat (xs (i + 1))) (xs (i + 2))).toInt64 := hf
  refine Lpr.istore dL_law_369 (by decide) rfl ?_
  refine Lpr.aload_n dL_law_371 rfl ?_
  refine Lpr.rd (j := 1) rfl rfl dL_law_372 dL_law_373 dL_law_375 rfl dL_law_376 dL_law_377 (by omega) hLn ?_
  refine Lpr.rd (j := 2) rfl rfl dL_law_378 dL_law_379 dL_law_381 rfl dL_law_382 dL_law_383 (by omega) hLn ?_
  refine Lpr.callM (d' := 200) (As := [.int (xs (i + 1)), .int (xs (i + 2))]) yoX12_man ml_L_44 im_X12_man se_X12_man dL_law_384 rfl rfl rfl (Nat.le_of_ble_eq_true rfl) (by decide) hca2 rfl (Nat.le_of_ble_eq_true rfl) (fun n0 h0 => man_M (by decide) hq hR) ?_
  rintro v s3 ⟨rfl, e0, fX⟩
  refine Lpr.istore dL_law_387 (by decide) rfl ?_
  refine Lpr.aload_n dL_law_389 rfl ?_
  refine Lpr.callM (d' := 200) (As := []) yoX12_thrown ml_L_45 im_X12_thrown se_X12_thrown dL_law_390 rfl rfl rfl (Nat.le_of_ble_eq_true rfl) (by decide) hca2 rfl (Nat.le_of_ble_eq_true rfl) (fun n0 h0 => thrown_M) ?_
  rintro v s4 ⟨rfl, rfl⟩
  refine Lpr.iload dL_law_393 rfl ?_
  refine Lpr.if_icmp_eq 400 dL_law_395 rfl e0 ?_
  refine Lpr.iload dL_law_400 rfl ?_
  have tail : ∀ L2, leL (LL N b i) L2 → Lpr κ N b Ln xs gr' (ca + 1) (sl + 6) (mkF s T T2 c g th u F k pa tu rd tk) s4 f' 417 L2 [] := fun L2 hL => Lpr.goto 1515 dL_law_417 rfl (Lpr.weak (LL N b i) hL (kk gr' s4 f' (hI.X fX)))
  refine Lpr.if_ne 417 dL_law_402 rfl (fun _ => tail _ (by simp [leL, LL, sto1, k2c])) (fun hc0 => ?_)
  refine Lpr.aload_n dL_law_405 rfl ?_
  refine Lpr.iconst dL_law_406 rfl ?_
  refine Lpr.lald0 dL_law_407 ?_
  refine Lpr.iload dL_law_408 rfl ?_
  refine Lpr.i2l dL_law_410 ?_
  refine Lpr.lcmpEq 417 dL_law_411 dL_law_412 rfl ?_ (tail _ (by simp [leL, LL, sto1, k2c]))
  rw [hf hc0]
  unfold aManS
  rw [if_pos hc0]
end Case4
