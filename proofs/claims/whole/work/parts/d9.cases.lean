/-! THE LAW, one call of each on both objects: the same answer, and INV goes on -/
abbrev LL (N b i : Nat) : List (Option Value) := [some (.ref b), some (.ref N), some (.ref (N + 124)), some (.ref (N + 165)), some (.int (nI i)), none, none]
section Cases
variable {κ : Kd} {N b Ln i : Nat} {xs : Nat → Int32} {gr ca sl : Nat} {S : FS} {s2 : St} {f : Nat → Int64}
theorem lc_2 (hI : INV S s2) (hi : i + 6 ≤ Ln) (hLn : Ln ≤ 3072) (hca : ca ≤ 601024 ∧ sl ≤ 7293034) (kk : ∀ (S' : FS) (s2' : St), INV S' s2' → Lpr κ N b Ln xs gr ca sl S' s2' f 1515 (LL N b i) []) : Lpr κ N b Ln xs gr ca sl S s2 f 302 (LL N b i) [] := by
  obtain ⟨s, ⟨T, T2⟩, ⟨c, g, th⟩, u, F, k, ⟨pa, tu⟩, rd, tk⟩ := S
  obtain ⟨hi, t, pl, o, l, hw, hD, hM, hFa, h7, ⟨i6, i7, i8, i9, i10⟩, ⟨i11, i12⟩, ⟨i13a, i13b, i13c, i13d⟩, ⟨i14a, i14b, i14c⟩, i15⟩ := id hI
  have hq : qui s2 := hM.1
  have h47 : s2.1 47 = -1 := hM.2.1
  have hR : Rm T s2 0 c := hM.2.2.1
  have hp : c.1 0 = T.1.1 0 := hR.2.1.1
  have hu := hM.2.2.2.2.2
  have hw6 : nat (T.1.1 0) < 7 := hw.1.2
  have hIn : ∀ q, q < nat (T.1.1 0) → T.1.2.1 2 q = nI (nat (T.1.2.1 2 q)) := fun q hq => by
    have h2 := (hR.1.1.2.2 q (by rw [← hR.1.1.2.1]; exact hq))
    rw [h2.2.1]; exact h2.2.2.1
  refine Lpr.aload_n dL_law_302 rfl ?_
  refine Lpr.rd (j := 1) rfl rfl dL_law_303 dL_law_304 dL_law_306 rfl dL_law_307 dL_law_308 (by omega) hLn ?_
  refine Lpr.callB (d' := 200) (As := [.int (xs (i + 1))]) yoX11_fault ml_L_31 im_X11_fault se_X11_fault dL_law_309 rfl rfl rfl (Nat.le_of_ble_eq_true rfl) (by decide) hca rfl (Nat.le_of_ble_eq_true rfl) (fun n0 h0 => fault_F (by decide)) ?_
  rintro v S' ⟨rfl, rfl⟩
  refine Lpr.aload_n dL_law_312 rfl ?_
  refine Lpr.rd (j := 1) rfl rfl dL_law_313 dL_law_314 dL_law_316 rfl dL_law_317 dL_law_318 (by omega) hLn ?_
  refine Lpr.callM (d' := 200) (As := [.int (xs (i + 1))]) yoX12_fault ml_L_34 im_X12_fault se_X12_fault dL_law_319 rfl rfl rfl (Nat.le_of_ble_eq_true rfl) (by decide) hca rfl (Nat.le_of_ble_eq_true rfl) (fun n0 h0 => fault_M (by decide)) ?_
  rintro v s3 ⟨rfl, fX⟩
  refine Lpr.if_icmp_eq 1515 dL_law_322 rfl (by rw [show s2.1 29 = rd.1 0 from i11, show s2.1 30 = rd.1 1 from i12]) ?_
  exact kk _ _ (hI.X fX)
theorem lc_3 (hI : INV S s2) (hi : i + 6 ≤ Ln) (hLn : Ln ≤ 3072) (hca : ca ≤ 601024 ∧ sl ≤ 7293034) (kk : ∀ (S' : FS) (s2' : St), INV S' s2' → Lpr κ N b Ln xs gr ca sl S' s2' f 1515 (LL N b i) []) : Lpr κ N b Ln xs gr ca sl S s2 f 327 (LL N b i) [] := by
  obtain ⟨s, ⟨T, T2⟩, ⟨c, g, th⟩, u, F, k, ⟨pa, tu⟩, rd, tk⟩ := S
  obtain ⟨hi, t, pl, o, l, hw, hD, hM, hFa, h7, ⟨i6, i7, i8, i9, i10⟩, ⟨i11, i12⟩, ⟨i13a, i13b, i13c, i13d⟩, ⟨i14a, i14b, i14c⟩, i15⟩ := id hI
  have hq : qui s2 := hM.1
  have h47 : s2.1 47 = -1 := hM.2.1
  have hR : Rm T s2 0 c := hM.2.2.1
  have hp : c.1 0 = T.1.1 0 := hR.2.1.1
  have hu := hM.2.2.2.2.2
  have hw6 : nat (T.1.1 0) < 7 := hw.1.2
  have hIn : ∀ q, q < nat (T.1.1 0) → T.1.2.1 2 q = nI (nat (T.1.2.1 2 q)) := fun q hq => by
    have h2 := (hR.1.1.2.2 q (by rw [← hR.1.1.2.1]; exact hq))
    rw [h2.2.1]; exact h2.2.2.1
  refine Lpr.aload_n dL_law_327 rfl ?_
  refine Lpr.rd (j := 1) rfl rfl dL_law_328 dL_law_329 dL_law_331 rfl dL_law_332 dL_law_333 (by omega) hLn ?_
  refine Lpr.callB (d' := 200) (As := [.int (xs (i + 1))]) yoX11_named ml_L_35 im_X11_named se_X11_named dL_law_334 rfl rfl rfl (Nat.le_of_ble_eq_true rfl) (by decide) hca rfl (Nat.le_of_ble_eq_true rfl) (fun n0 h0 => named_F (by decide) hw) ?_
  rintro v S' ⟨rfl, rfl⟩
  refine Lpr.aload_n dL_law_337 rfl ?_
  refine Lpr.rd (j := 1) rfl rfl dL_law_338 dL_law_339 dL_law_341 rfl dL_law_342 dL_law_343 (by omega) hLn ?_
  refine Lpr.callM (d' := 200) (As := [.int (xs (i + 1))]) yoX12_named ml_L_38 im_X12_named se_X12_named dL_law_344 rfl rfl rfl (Nat.le_of_ble_eq_true rfl) (by decide) hca rfl (Nat.le_of_ble_eq_true rfl) (fun n0 h0 => named_M (by decide) hq hR) ?_
  rintro v s3 ⟨rfl, fX⟩
  refine Lpr.if_icmp_eq 1515 dL_law_347 rfl rfl ?_
  exact kk _ _ (hI.X fX)
theorem lc_5 (hI : INV S s2) (hi : i + 6 ≤ Ln) (hLn : Ln ≤ 3072) (hca : ca ≤ 601024 ∧ sl ≤ 7293034) (kk : ∀ (S' : FS) (s2' : St), INV S' s2' → Lpr κ N b Ln xs gr ca sl S' s2' f 1515 (LL N b i) []) : Lpr κ N b Ln xs gr ca sl S s2 f 420 (LL N b i) [] := by
  obtain ⟨s, ⟨T, T2⟩, ⟨c, g, th⟩, u, F, k, ⟨pa, tu⟩, rd, tk⟩ := S
  obtain ⟨hi, t, pl, o, l, hw, hD, hM, hFa, h7, ⟨i6, i7, i8, i9, i10⟩, ⟨i11, i12⟩, ⟨i13a, i13b, i13c, i13d⟩, ⟨i14a, i14b, i14c⟩, i15⟩ := id hI
  have hq : qui s2 := hM.1
  have h47 : s2.1 47 = -1 := hM.2.1
  have hR : Rm T s2 0 c := hM.2.2.1
  have hp : c.1 0 = T.1.1 0 := hR.2.1.1
  have hu := hM.2.2.2.2.2
  have hw6 : nat (T.1.1 0) < 7 := hw.1.2
  have hIn : ∀ q, q < nat (T.1.1 0) → T.1.2.1 2 q = nI (nat (T.1.2.1 2 q)) := fun q hq => by
    have h2 := (hR.1.1.2.2 q (by rw [← hR.1.1.2.1]; exact hq))
    rw [h2.2.1]; exact h2.2.2.1
  refine Lpr.aload_n dL_law_420 rfl ?_
  refine Lpr.rd (j := 1) rfl rfl dL_law_421 dL_law_422 dL_law_424 rfl dL_law_425 dL_law_426 (by omega) hLn ?_
  refine Lpr.rd (j := 2) rfl rfl dL_law_427 dL_law_428 dL_law_430 rfl dL_law_431 dL_law_432 (by omega) hLn ?_
  refine Lpr.callB (d' := 200) (As := [.int (xs (i + 1)), .int (xs (i + 2))]) yoX11_june ml_L_49 im_X11_june se_X11_june dL_law_433 rfl rfl rfl (Nat.le_of_ble_eq_true rfl) (by decide) hca rfl (Nat.le_of_ble_eq_true rfl) (fun n0 h0 => june_F (by decide) hw) ?_
  rintro v S' ⟨rfl, rfl⟩
  refine Lpr.aload_n dL_law_436 rfl ?_
  refine Lpr.rd (j := 1) rfl rfl dL_law_437 dL_law_438 dL_law_440 rfl dL_law_441 dL_law_442 (by omega) hLn ?_
  refine Lpr.rd (j := 2) rfl rfl dL_law_443 dL_law_444 dL_law_446 rfl dL_law_447 dL_law_448 (by omega) hLn ?_
  refine Lpr.callM (d' := 200) (As := [.int (xs (i + 1)), .int (xs (i + 2))]) yoX12_june ml_L_52 im_X12_june se_X12_june dL_law_449 rfl rfl rfl (Nat.le_of_ble_eq_true rfl) (by decide) hca rfl (Nat.le_of_ble_eq_true rfl) (fun n0 h0 => june_M (by decide) hq hR) ?_
  rintro v s3 ⟨rfl, fX⟩
  refine Lpr.if_icmp_eq 1515 dL_law_452 rfl rfl ?_
  exact kk _ _ (hI.X fX)
theorem lc_6 (hI : INV S s2) (hi : i + 6 ≤ Ln) (hLn : Ln ≤ 3072) (hca : ca ≤ 601024 ∧ sl ≤ 7293034) (kk : ∀ (S' : FS) (s2' : St), INV S' s2' → Lpr κ N b Ln xs gr ca sl S' s2' f 1515 (LL N b i) []) : Lpr κ N b Ln xs gr ca sl S s2 f 457 (LL N b i) [] := by
  obtain ⟨s, ⟨T, T2⟩, ⟨c, g, th⟩, u, F, k, ⟨pa, tu⟩, rd, tk⟩ := S
  obtain ⟨hi, t, pl, o, l, hw, hD, hM, hFa, h7, ⟨i6, i7, i8, i9, i10⟩, ⟨i11, i12⟩, ⟨i13a, i13b, i13c, i13d⟩, ⟨i14a, i14b, i14c⟩, i15⟩ := id hI
  have hq : qui s2 := hM.1
  have h47 : s2.1 47 = -1 := hM.2.1
  have hR : Rm T s2 0 c := hM.2.2.1
  have hp : c.1 0 = T.1.1 0 := hR.2.1.1
  have hu := hM.2.2.2.2.2
  have hw6 : nat (T.1.1 0) < 7 := hw.1.2
  have hIn : ∀ q, q < nat (T.1.1 0) → T.1.2.1 2 q = nI (nat (T.1.2.1 2 q)) := fun q hq => by
    have h2 := (hR.1.1.2.2 q (by rw [← hR.1.1.2.1]; exact hq))
    rw [h2.2.1]; exact h2.2.2.1
  refine Lpr.aload_n dL_law_457 rfl ?_
  refine Lpr.rd (j := 1) rfl rfl dL_law_458 dL_law_459 dL_law_461 rfl dL_law_462 dL_law_463 (by omega) hLn ?_
  refine Lpr.callB (d' := 200) (As := [.int (xs (i + 1))]) yoX11_lenders ml_L_53 im_X11_lenders se_X11_lenders dL_law_464 rfl rfl rfl (Nat.le_of_ble_eq_true rfl) (by decide) hca rfl (Nat.le_of_ble_eq_true rfl) (fun n0 h0 => lenders_F (by decide) hw) ?_
  rintro v S' ⟨rfl, rfl⟩
  refine Lpr.aload_n dL_law_467 rfl ?_
  refine Lpr.rd (j := 1) rfl rfl dL_law_468 dL_law_469 dL_law_471 rfl dL_law_472 dL_law_473 (by omega) hLn ?_
  refine Lpr.callM (d' := 200) (As := [.int (xs (i + 1))]) yoX12_lenders ml_L_56 im_X12_lenders se_X12_lenders dL_law_474 rfl rfl rfl (Nat.le_of_ble_eq_true rfl) (by decide) hca rfl (Nat.le_of_ble_eq_true rfl) (fun n0 h0 => lendersQ_M (by decide) hq hR) ?_
  rintro v s3 ⟨rfl, fX⟩
  refine Lpr.if_icmp_eq 1515 dL_law_477 rfl rfl ?_
  exact kk _ _ (hI.X fX)
theorem lc_7 (hI : INV S s2) (hi : i + 6 ≤ Ln) (hLn : Ln ≤ 3072) (hca : ca ≤ 601024 ∧ sl ≤ 7293034) (kk : ∀ (S' : FS) (s2' : St), INV S' s2' → Lpr κ N b Ln xs gr ca sl S' s2' f 1515 (LL N b i) []) : Lpr κ N b Ln xs gr ca sl S s2 f 482 (LL N b i) [] := by
  obtain ⟨s, ⟨T, T2⟩, ⟨c, g, th⟩, u, F, k, ⟨pa, tu⟩, rd, tk⟩ := S
  obtain ⟨hi, t, pl, o, l, hw, hD, hM, hFa, h7, ⟨i6, i7, i8, i9, i10⟩, ⟨i11, i12⟩, ⟨i13a, i13b, i13c, i13d⟩, ⟨i14a, i14b, i14c⟩, i15⟩ := id hI
  have hq : qui s2 := hM.1
  have h47 : s2.1 47 = -1 := hM.2.1
  have hR : Rm T s2 0 c := hM.2.2.1
  have hp : c.1 0 = T.1.1 0 := hR.2.1.1
  have hu := hM.2.2.2.2.2
  have hw6 : nat (T.1.1 0) < 7 := hw.1.2
  have hIn : ∀ q, q < nat (T.1.1 0) → T.1.2.1 2 q = nI (nat (T.1.2.1 2 q)) := fun q hq => by
    have h2 := (hR.1.1.2.2 q (by rw [← hR.1.1.2.1]; exact hq))
    rw [h2.2.1]; exact h2.2.2.1
  refine Lpr.aload_n dL_law_482 rfl ?_
  refine Lpr.rd (j := 1) rfl rfl dL_law_483 dL_law_484 dL_law_486 rfl dL_law_487 dL_law_488 (by omega) hLn ?_
  refine Lpr.callB (d' := 200) (As := [.int (xs (i + 1))]) yoX11_recall ml_L_57 im_X11_recall se_X11_recall dL_law_489 rfl rfl rfl (Nat.le_of_ble_eq_true rfl) (by decide) hca rfl (Nat.le_of_ble_eq_true rfl) (fun n0 h0 => recall_F (by decide) hw) ?_
  rintro v S' ⟨rfl, rfl⟩
  refine Lpr.aload_n dL_law_492 rfl ?_
  refine Lpr.rd (j := 1) rfl rfl dL_law_493 dL_law_494 dL_law_496 rfl dL_law_497 dL_law_498 (by omega) hLn ?_
  refine Lpr.callM (d' := 200) (As := [.int (xs (i + 1))]) yoX12_recall ml_L_60 im_X12_recall se_X12_recall dL_law_499 rfl rfl rfl (Nat.le_of_ble_eq_true rfl) (by decide) hca rfl (Nat.le_of_ble_eq_true rfl) (fun n0 h0 => recallQ_M (by decide) hq hR) ?_
  rintro v s3 ⟨rfl, fX⟩
  refine Lpr.if_icmp_eq 1515 dL_law_502 rfl rfl ?_
  exact kk _ _ (hI.X fX)
theorem lc_8 (hI : INV S s2) (hi : i + 6 ≤ Ln) (hLn : Ln ≤ 3072) (hca : ca ≤ 601024 ∧ sl ≤ 7293034) (kk : ∀ (S' : FS) (s2' : St), INV S' s2' → Lpr κ N b Ln xs gr ca sl S' s2' f 1515 (LL N b i) []) : Lpr κ N b Ln xs gr ca sl S s2 f 507 (LL N b i) [] := by
  obtain ⟨s, ⟨T, T2⟩, ⟨c, g, th⟩, u, F, k, ⟨pa, tu⟩, rd, tk⟩ := S
  obtain ⟨hi, t, pl, o, l, hw, hD, hM, hFa, h7, ⟨i6, i7, i8, i9, i10⟩, ⟨i11, i12⟩, ⟨i13a, i13b, i13c, i13d⟩, ⟨i14a, i14b, i14c⟩, i15⟩ := id hI
  have hq : qui s2 := hM.1
  have h47 : s2.1 47 = -1 := hM.2.1
  have hR : Rm T s2 0 c := hM.2.2.1
  have hp : c.1 0 = T.1.1 0 := hR.2.1.1
  have hu := hM.2.2.2.2.2
  have hw6 : nat (T.1.1 0) < 7 := hw.1.2
  have hIn : ∀ q, q < nat (T.1.1 0) → T.1.2.1 2 q = nI (nat (T.1.2.1 2 q)) := fun q hq => by
    have h2 := (hR.1.1.2.2 q (by rw [← hR.1.1.2.1]; exact hq))
    rw [h2.2.1]; exact h2.2.2.1
  refine Lpr.aload_n dL_law_507 rfl ?_
  refine Lpr.rd (j := 1) rfl rfl dL_law_508 dL_law_509 dL_law_511 rfl dL_law_512 dL_law_513 (by omega) hLn ?_
  refine Lpr.rd (j := 2) rfl rfl dL_law_514 dL_law_515 dL_law_517 rfl dL_law_518 dL_law_519 (by omega) hLn ?_
  refine Lpr.callB (d' := 200) (As := [.int (xs (i + 1)), .int (xs (i + 2))]) yoX11_law ml_L_61 im_X11_law se_X11_law dL_law_520 rfl rfl rfl (Nat.le_of_ble_eq_true rfl) (by decide) hca rfl (Nat.le_of_ble_eq_true rfl) (fun n0 h0 => law_F (by decide) hw) ?_
  rintro v S' ⟨rfl, rfl⟩
  refine Lpr.aload_n dL_law_523 rfl ?_
  refine Lpr.rd (j := 1) rfl rfl dL_law_524 dL_law_525 dL_law_527 rfl dL_law_528 dL_law_529 (by omega) hLn ?_
  refine Lpr.rd (j := 2) rfl rfl dL_law_530 dL_law_531 dL_law_533 rfl dL_law_534 dL_law_535 (by omega) hLn ?_
  refine Lpr.callM (d' := 200) (As := [.int (xs (i + 1)), .int (xs (i + 2))]) yoX12_law ml_L_65 im_X12_law se_X12_law dL_law_536 rfl rfl rfl (Nat.le_of_ble_eq_true rfl) (by decide) hca rfl (Nat.le_of_ble_eq_true rfl) (fun n0 h0 => law_M (by decide) hq hR) ?_
  rintro v s3 ⟨rfl, fX⟩
  refine Lpr.lcmpEq 1515 dL_law_539 dL_law_540 rfl rfl ?_
  exact kk _ _ (hI.X fX)
theorem lc_9 (hI : INV S s2) (hi : i + 6 ≤ Ln) (hLn : Ln ≤ 3072) (hca : ca ≤ 601024 ∧ sl ≤ 7293034) (kk : ∀ (S' : FS) (s2' : St), INV S' s2' → Lpr κ N b Ln xs gr ca sl S' s2' f 1515 (LL N b i) []) : Lpr κ N b Ln xs gr ca sl S s2 f 545 (LL N b i) [] := by
  obtain ⟨s, ⟨T, T2⟩, ⟨c, g, th⟩, u, F, k, ⟨pa, tu⟩, rd, tk⟩ := S
  obtain ⟨hi, t, pl, o, l, hw, hD, hM, hFa, h7, ⟨i6, i7, i8, i9, i10⟩, ⟨i11, i12⟩, ⟨i13a, i13b, i13c, i13d⟩, ⟨i14a, i14b, i14c⟩, i15⟩ := id hI
  have hq : qui s2 := hM.1
  have h47 : s2.1 47 = -1 := hM.2.1
  have hR : Rm T s2 0 c := hM.2.2.1
  have hp : c.1 0 = T.1.1 0 := hR.2.1.1
  have hu := hM.2.2.2.2.2
  have hw6 : nat (T.1.1 0) < 7 := hw.1.2
  have hIn : ∀ q, q < nat (T.1.1 0) → T.1.2.1 2 q = nI (nat (T.1.2.1 2 q)) := fun q hq => by
    have h2 := (hR.1.1.2.2 q (by rw [← hR.1.1.2.1]; exact hq))
    rw [h2.2.1]; exact h2.2.2.1
  refine Lpr.aload_n dL_law_545 rfl ?_
  refine Lpr.rd (j := 1) rfl rfl dL_law_546 dL_law_547 dL_law_549 rfl dL_law_550 dL_law_551 (by omega) hLn ?_
  refine Lpr.rd (j := 2) rfl rfl dL_law_552 dL_law_553 dL_law_555 rfl dL_law_556 dL_law_557 (by omega) hLn ?_
  refine Lpr.callB (d' := 200) (As := [.int (xs (i + 1)), .int (xs (i + 2))]) yoX11_light ml_L_66 im_X11_light se_X11_light dL_law_558 rfl rfl rfl (Nat.le_of_ble_eq_true rfl) (by decide) hca rfl (Nat.le_of_ble_eq_true rfl) (fun n0 h0 => light_F (by decide) hw hu.1) ?_
  rintro v S' ⟨rfl, rfl⟩
  refine Lpr.aload_n dL_law_561 rfl ?_
  refine Lpr.rd (j := 1) rfl rfl dL_law_562 dL_law_563 dL_law_565 rfl dL_law_566 dL_law_567 (by omega) hLn ?_
  refine Lpr.rd (j := 2) rfl rfl dL_law_568 dL_law_569 dL_law_571 rfl dL_law_572 dL_law_573 (by omega) hLn ?_
  refine Lpr.callM (d' := 200) (As := [.int (xs (i + 1)), .int (xs (i + 2))]) yoX12_light ml_L_70 im_X12_light se_X12_light dL_law_574 rfl rfl rfl (Nat.le_of_ble_eq_true rfl) (by decide) hca rfl (Nat.le_of_ble_eq_true rfl) (fun n0 h0 => light_M (by decide) hM) ?_
  rintro v s3 ⟨rfl, m, fD⟩
  refine Lpr.if_icmp_eq 1515 dL_law_577 rfl rfl ?_
  exact kk _ _ (hI.D m fD h7 rfl rfl)
theorem lc_10 (hI : INV S s2) (hi : i + 6 ≤ Ln) (hLn : Ln ≤ 3072) (hca : ca ≤ 601024 ∧ sl ≤ 7293034) (kk : ∀ (S' : FS) (s2' : St), INV S' s2' → Lpr κ N b Ln xs gr ca sl S' s2' f 1515 (LL N b i) []) : Lpr κ N b Ln xs gr ca sl S s2 f 582 (LL N b i) [] := by
  obtain ⟨s, ⟨T, T2⟩, ⟨c, g, th⟩, u, F, k, ⟨pa, tu⟩, rd, tk⟩ := S
  obtain ⟨hi, t, pl, o, l, hw, hD, hM, hFa, h7, ⟨i6, i7, i8, i9, i10⟩, ⟨i11, i12⟩, ⟨i13a, i13b, i13c, i13d⟩, ⟨i14a, i14b, i14c⟩, i15⟩ := id hI
  have hq : qui s2 := hM.1
  have h47 : s2.1 47 = -1 := hM.2.1
  have hR : Rm T s2 0 c := hM.2.2.1
  have hp : c.1 0 = T.1.1 0 := hR.2.1.1
  have hu := hM.2.2.2.2.2
  have hw6 : nat (T.1.1 0) < 7 := hw.1.2
  have hIn : ∀ q, q < nat (T.1.1 0) → T.1.2.1 2 q = nI (nat (T.1.2.1 2 q)) := fun q hq => by
    have h2 := (hR.1.1.2.2 q (by rw [← hR.1.1.2.1]; exact hq))
    rw [h2.2.1]; exact h2.2.2.1
  refine Lpr.aload_n dL_law_582 rfl ?_
  refine Lpr.rd (j := 1) rfl rfl dL_law_583 dL_law_584 dL_law_586 rfl dL_law_587 dL_law_588 (by omega) hLn ?_
  refine Lpr.rd (j := 2) rfl rfl dL_law_589 dL_law_590 dL_law_592 rfl dL_law_593 dL_law_594 (by omega) hLn ?_
  refine Lpr.callB (d' := 200) (As := [.int (xs (i + 1)), .int (xs (i + 2))]) yoX11_blow ml_L_71 im_X11_blow se_X11_blow dL_law_595 rfl rfl rfl (Nat.le_of_ble_eq_true rfl) (by decide) hca rfl (Nat.le_of_ble_eq_true rfl) (fun n0 h0 => blow_F (by decide) hw hu.1) ?_
  rintro v S' ⟨rfl, rfl⟩
  refine Lpr.aload_n dL_law_598 rfl ?_
  refine Lpr.rd (j := 1) rfl rfl dL_law_599 dL_law_600 dL_law_602 rfl dL_law_603 dL_law_604 (by omega) hLn ?_
  refine Lpr.rd (j := 2) rfl rfl dL_law_605 dL_law_606 dL_law_608 rfl dL_law_609 dL_law_610 (by omega) hLn ?_
  refine Lpr.callM (d' := 200) (As := [.int (xs (i + 1)), .int (xs (i + 2))]) yoX12_blow ml_L_74 im_X12_blow se_X12_blow dL_law_611 rfl rfl rfl (Nat.le_of_ble_eq_true rfl) (by decide) hca rfl (Nat.le_of_ble_eq_true rfl) (fun n0 h0 => blow_M (by decide) hM) ?_
  rintro v s3 ⟨rfl, m, fD⟩
  refine Lpr.if_icmp_eq 1515 dL_law_614 rfl rfl ?_
  exact kk _ _ (hI.D m fD h7 rfl rfl)
theorem lc_11 (hI : INV S s2) (hi : i + 6 ≤ Ln) (hLn : Ln ≤ 3072) (hca : ca ≤ 601024 ∧ sl ≤ 7293034) (kk : ∀ (S' : FS) (s2' : St), INV S' s2' → Lpr κ N b Ln xs gr ca sl S' s2' f 1515 (LL N b i) []) : Lpr κ N b Ln xs gr ca sl S s2 f 619 (LL N b i) [] := by
  obtain ⟨s, ⟨T, T2⟩, ⟨c, g, th⟩, u, F, k, ⟨pa, tu⟩, rd, tk⟩ := S
  obtain ⟨hi, t, pl, o, l, hw, hD, hM, hFa, h7, ⟨i6, i7, i8, i9, i10⟩, ⟨i11, i12⟩, ⟨i13a, i13b, i13c, i13d⟩, ⟨i14a, i14b, i14c⟩, i15⟩ := id hI
  have hq : qui s2 := hM.1
  have h47 : s2.1 47 = -1 := hM.2.1
  have hR : Rm T s2 0 c := hM.2.2.1
  have hp : c.1 0 = T.1.1 0 := hR.2.1.1
  have hu := hM.2.2.2.2.2
  have hw6 : nat (T.1.1 0) < 7 := hw.1.2
  have hIn : ∀ q, q < nat (T.1.1 0) → T.1.2.1 2 q = nI (nat (T.1.2.1 2 q)) := fun q hq => by
    have h2 := (hR.1.1.2.2 q (by rw [← hR.1.1.2.1]; exact hq))
    rw [h2.2.1]; exact h2.2.2.1
  refine Lpr.aload_n dL_law_619 rfl ?_
  refine Lpr.rd (j := 1) rfl rfl dL_law_620 dL_law_621 dL_law_623 rfl dL_law_624 dL_law_625 (by omega) hLn ?_
  refine Lpr.rd (j := 2) rfl rfl dL_law_626 dL_law_627 dL_law_629 rfl dL_law_630 dL_law_631 (by omega) hLn ?_
  refine Lpr.rd (j := 3) rfl rfl dL_law_632 dL_law_633 dL_law_635 rfl dL_law_636 dL_law_637 (by omega) hLn ?_
  refine Lpr.callB (d' := 200) (As := [.int (xs (i + 1)), .int (xs (i + 2)), .int (xs (i + 3))]) yoX11_cut ml_L_75 im_X11_cut se_X11_cut dL_law_638 rfl rfl rfl (Nat.le_of_ble_eq_true rfl) (by decide) hca rfl (Nat.le_of_ble_eq_true rfl) (fun n0 h0 => cut_F (by decide) hw hu.1) ?_
  rintro v S' ⟨rfl, rfl⟩
  refine Lpr.aload_n dL_law_641 rfl ?_
  refine Lpr.rd (j := 1) rfl rfl dL_law_642 dL_law_643 dL_law_645 rfl dL_law_646 dL_law_647 (by omega) hLn ?_
  refine Lpr.rd (j := 2) rfl rfl dL_law_648 dL_law_649 dL_law_651 rfl dL_law_652 dL_law_653 (by omega) hLn ?_
  refine Lpr.rd (j := 3) rfl rfl dL_law_654 dL_law_655 dL_law_657 rfl dL_law_658 dL_law_659 (by omega) hLn ?_
  refine Lpr.callM (d' := 200) (As := [.int (xs (i + 1)), .int (xs (i + 2)), .int (xs (i + 3))]) yoX12_cut ml_L_79 im_X12_cut se_X12_cut dL_law_660 rfl rfl rfl (Nat.le_of_ble_eq_true rfl) (by decide) hca rfl (Nat.le_of_ble_eq_true rfl) (fun n0 h0 => cut_M (by decide) hM) ?_
  rintro v s3 ⟨rfl, m, fD⟩
  refine Lpr.if_icmp_eq 1515 dL_law_663 rfl rfl ?_
  exact kk _ _ (hI.D m fD h7 rfl rfl)
theorem lc_12 (hI : INV S s2) (hi : i + 6 ≤ Ln) (hLn : Ln ≤ 3072) (hca : ca ≤ 601024 ∧ sl ≤ 7293034) (kk : ∀ (S' : FS) (s2' : St), INV S' s2' → Lpr κ N b Ln xs gr ca sl S' s2' f 1515 (LL N b i) []) : Lpr κ N b Ln xs gr ca sl S s2 f 668 (LL N b i) [] := by
  obtain ⟨s, ⟨T, T2⟩, ⟨c, g, th⟩, u, F, k, ⟨pa, tu⟩, rd, tk⟩ := S
  obtain ⟨hi, t, pl, o, l, hw, hD, hM, hFa, h7, ⟨i6, i7, i8, i9, i10⟩, ⟨i11, i12⟩, ⟨i13a, i13b, i13c, i13d⟩, ⟨i14a, i14b, i14c⟩, i15⟩ := id hI
  have hq : qui s2 := hM.1
  have h47 : s2.1 47 = -1 := hM.2.1
  have hR : Rm T s2 0 c := hM.2.2.1
  have hp : c.1 0 = T.1.1 0 := hR.2.1.1
  have hu := hM.2.2.2.2.2
  have hw6 : nat (T.1.1 0) < 7 := hw.1.2
  have hIn : ∀ q, q < nat (T.1.1 0) → T.1.2.1 2 q = nI (nat (T.1.2.1 2 q)) := fun q hq => by
    have h2 := (hR.1.1.2.2 q (by rw [← hR.1.1.2.1]; exact hq))
    rw [h2.2.1]; exact h2.2.2.1
  refine Lpr.aload_n dL_law_668 rfl ?_
  refine Lpr.rd (j := 1) rfl rfl dL_law_669 dL_law_670 dL_law_672 rfl dL_law_673 dL_law_674 (by omega) hLn ?_
  refine Lpr.callB (d' := 200) (As := [.int (xs (i + 1))]) yoX11_go ml_L_80 im_X11_go se_X11_go dL_law_675 rfl rfl rfl (Nat.le_of_ble_eq_true rfl) (by decide) hca rfl (Nat.le_of_ble_eq_true rfl) (fun n0 h0 => go_F (by decide) hw hp) ?_
  rintro v S' ⟨rfl, k9, rfl⟩
  refine Lpr.aload_n dL_law_678 rfl ?_
  refine Lpr.rd (j := 1) rfl rfl dL_law_679 dL_law_680 dL_law_682 rfl dL_law_683 dL_law_684 (by omega) hLn ?_
  refine Lpr.callM (d' := 200) (As := [.int (xs (i + 1))]) yoX12_go ml_L_83 im_X12_go se_X12_go dL_law_685 rfl rfl rfl (Nat.le_of_ble_eq_true rfl) (by decide) hca rfl (Nat.le_of_ble_eq_true rfl) (fun n0 h0 => go_M (by decide) hM hw) ?_
  rintro v s3 ⟨rfl, m, fD⟩
  refine Lpr.if_icmp_eq 1515 dL_law_688 rfl rfl ?_
  exact kk _ _ (hI.D m fD h7 rfl rfl)
theorem lc_13 (hI : INV S s2) (hi : i + 6 ≤ Ln) (hLn : Ln ≤ 3072) (hca : ca ≤ 601024 ∧ sl ≤ 7293034) (kk : ∀ (S' : FS) (s2' : St), INV S' s2' → Lpr κ N b Ln xs gr ca sl S' s2' f 1515 (LL N b i) []) : Lpr κ N b Ln xs gr ca sl S s2 f 693 (LL N b i) [] := by
  obtain ⟨s, ⟨T, T2⟩, ⟨c, g, th⟩, u, F, k, ⟨pa, tu⟩, rd, tk⟩ := S
  obtain ⟨hi, t, pl, o, l, hw, hD, hM, hFa, h7, ⟨i6, i7, i8, i9, i10⟩, ⟨i11, i12⟩, ⟨i13a, i13b, i13c, i13d⟩, ⟨i14a, i14b, i14c⟩, i15⟩ := id hI
  have hq : qui s2 := hM.1
  have h47 : s2.1 47 = -1 := hM.2.1
  have hR : Rm T s2 0 c := hM.2.2.1
  have hp : c.1 0 = T.1.1 0 := hR.2.1.1
  have hu := hM.2.2.2.2.2
  have hw6 : nat (T.1.1 0) < 7 := hw.1.2
  have hIn : ∀ q, q < nat (T.1.1 0) → T.1.2.1 2 q = nI (nat (T.1.2.1 2 q)) := fun q hq => by
    have h2 := (hR.1.1.2.2 q (by rw [← hR.1.1.2.1]; exact hq))
    rw [h2.2.1]; exact h2.2.2.1
  refine Lpr.aload_n dL_law_693 rfl ?_
  refine Lpr.rd (j := 1) rfl rfl dL_law_694 dL_law_695 dL_law_697 rfl dL_law_698 dL_law_699 (by omega) hLn ?_
  refine Lpr.rd (j := 2) rfl rfl dL_law_700 dL_law_701 dL_law_703 rfl dL_law_704 dL_law_705 (by omega) hLn ?_
  refine Lpr.rd (j := 3) rfl rfl dL_law_706 dL_law_707 dL_law_709 rfl dL_law_710 dL_law_711 (by omega) hLn ?_
  refine Lpr.callB (d' := 200) (As := [.int (xs (i + 1)), .int (xs (i + 2)), .int (xs (i + 3))]) yoX11_ahead ml_L_84 im_X11_ahead se_X11_ahead dL_law_712 rfl rfl rfl (Nat.le_of_ble_eq_true rfl) (by decide) hca rfl (Nat.le_of_ble_eq_true rfl) (fun n0 h0 => ahead_F (by decide) hw hp) ?_
  rintro v S' ⟨rfl, th9, k9, rfl⟩
  refine Lpr.aload_n dL_law_715 rfl ?_
  refine Lpr.rd (j := 1) rfl rfl dL_law_716 dL_law_717 dL_law_719 rfl dL_law_720 dL_law_721 (by omega) hLn ?_
  refine Lpr.rd (j := 2) rfl rfl dL_law_722 dL_law_723 dL_law_725 rfl dL_law_726 dL_law_727 (by omega) hLn ?_
  refine Lpr.rd (j := 3) rfl rfl dL_law_728 dL_law_729 dL_law_731 rfl dL_law_732 dL_law_733 (by omega) hLn ?_
  refine Lpr.callM (d' := 200) (As := [.int (xs (i + 1)), .int (xs (i + 2)), .int (xs (i + 3))]) yoX12_ahead ml_L_87 im_X12_ahead se_X12_ahead dL_law_734 rfl rfl rfl (Nat.le_of_ble_eq_true rfl) (by decide) hca rfl (Nat.le_of_ble_eq_true rfl) (fun n0 h0 => ahead_M (by decide) hq hw (hR.cp (g := th))) ?_
  rintro v s3 ⟨rfl, fX⟩
  refine Lpr.if_icmp_eq 1515 dL_law_737 rfl rfl ?_
  exact kk _ _ ((INV.S hI rfl rfl).X fX)
theorem lc_14 (hI : INV S s2) (hi : i + 6 ≤ Ln) (hLn : Ln ≤ 3072) (hca : ca ≤ 601024 ∧ sl ≤ 7293034) (kk : ∀ (S' : FS) (s2' : St), INV S' s2' → Lpr κ N b Ln xs gr ca sl S' s2' f 1515 (LL N b i) []) : Lpr κ N b Ln xs gr ca sl S s2 f 742 (LL N b i) [] := by
  obtain ⟨s, ⟨T, T2⟩, ⟨c, g, th⟩, u, F, k, ⟨pa, tu⟩, rd, tk⟩ := S
  obtain ⟨hi, t, pl, o, l, hw, hD, hM, hFa, h7, ⟨i6, i7, i8, i9, i10⟩, ⟨i11, i12⟩, ⟨i13a, i13b, i13c, i13d⟩, ⟨i14a, i14b, i14c⟩, i15⟩ := id hI
  have hq : qui s2 := hM.1
  have h47 : s2.1 47 = -1 := hM.2.1
  have hR : Rm T s2 0 c := hM.2.2.1
  have hp : c.1 0 = T.1.1 0 := hR.2.1.1
  have hu := hM.2.2.2.2.2
  have hw6 : nat (T.1.1 0) < 7 := hw.1.2
  have hIn : ∀ q, q < nat (T.1.1 0) → T.1.2.1 2 q = nI (nat (T.1.2.1 2 q)) := fun q hq => by
    have h2 := (hR.1.1.2.2 q (by rw [← hR.1.1.2.1]; exact hq))
    rw [h2.2.1]; exact h2.2.2.1
  refine Lpr.aload_n dL_law_742 rfl ?_
  refine Lpr.rd (j := 1) rfl rfl dL_law_743 dL_law_744 dL_law_746 rfl dL_law_747 dL_law_748 (by omega) hLn ?_
  refine Lpr.callB (d' := 200) (As := [.int (xs (i + 1))]) yoX11_ends ml_L_88 im_X11_ends se_X11_ends dL_law_749 rfl rfl rfl (Nat.le_of_ble_eq_true rfl) (by decide) hca rfl (Nat.le_of_ble_eq_true rfl) (fun n0 h0 => ends_F (by decide) hw hp) ?_
  rintro v S' ⟨rfl, th9, k9, rfl⟩
  refine Lpr.aload_n dL_law_752 rfl ?_
  refine Lpr.rd (j := 1) rfl rfl dL_law_753 dL_law_754 dL_law_756 rfl dL_law_757 dL_law_758 (by omega) hLn ?_
  refine Lpr.callM (d' := 200) (As := [.int (xs (i + 1))]) yoX12_ends ml_L_91 im_X12_ends se_X12_ends dL_law_759 rfl rfl rfl (Nat.le_of_ble_eq_true rfl) (by decide) hca rfl (Nat.le_of_ble_eq_true rfl) (fun n0 h0 => ends_M (by decide) hq hw hR) ?_
  rintro v s3 ⟨rfl, fX⟩
  refine Lpr.if_icmp_eq 1515 dL_law_762 rfl rfl ?_
  exact kk _ _ ((INV.S hI rfl rfl).X fX)
theorem lc_15 (hI : INV S s2) (hi : i + 6 ≤ Ln) (hLn : Ln ≤ 3072) (hca : ca ≤ 601024 ∧ sl ≤ 7293034) (kk : ∀ (S' : FS) (s2' : St), INV S' s2' → Lpr κ N b Ln xs gr ca sl S' s2' f 1515 (LL N b i) []) : Lpr κ N b Ln xs gr ca sl S s2 f 767 (LL N b i) [] := by
  obtain ⟨s, ⟨T, T2⟩, ⟨c, g, th⟩, u, F, k, ⟨pa, tu⟩, rd, tk⟩ := S
  obtain ⟨hi, t, pl, o, l, hw, hD, hM, hFa, h7, ⟨i6, i7, i8, i9, i10⟩, ⟨i11, i12⟩, ⟨i13a, i13b, i13c, i13d⟩, ⟨i14a, i14b, i14c⟩, i15⟩ := id hI
  have hq : qui s2 := hM.1
  have h47 : s2.1 47 = -1 := hM.2.1
  have hR : Rm T s2 0 c := hM.2.2.1
  have hp : c.1 0 = T.1.1 0 := hR.2.1.1
  have hu := hM.2.2.2.2.2
  have hw6 : nat (T.1.1 0) < 7 := hw.1.2
  have hIn : ∀ q, q < nat (T.1.1 0) → T.1.2.1 2 q = nI (nat (T.1.2.1 2 q)) := fun q hq => by
    have h2 := (hR.1.1.2.2 q (by rw [← hR.1.1.2.1]; exact hq))
    rw [h2.2.1]; exact h2.2.2.1
  refine Lpr.aload_n dL_law_767 rfl ?_
  refine Lpr.rd (j := 1) rfl rfl dL_law_768 dL_law_769 dL_law_771 rfl dL_law_772 dL_law_773 (by omega) hLn ?_
  refine Lpr.rd (j := 2) rfl rfl dL_law_774 dL_law_775 dL_law_777 rfl dL_law_778 dL_law_779 (by omega) hLn ?_
  refine Lpr.callB (d' := 200) (As := [.int (xs (i + 1)), .int (xs (i + 2))]) yoX11_alike ml_L_92 im_X11_alike se_X11_alike dL_law_780 rfl rfl rfl (Nat.le_of_ble_eq_true rfl) (by decide) hca rfl (Nat.le_of_ble_eq_true rfl) (fun n0 h0 => alike_F (by decide) hw hp) ?_
  rintro v S' ⟨rfl, th9, k9, rfl⟩
  refine Lpr.aload_n dL_law_783 rfl ?_
  refine Lpr.rd (j := 1) rfl rfl dL_law_784 dL_law_785 dL_law_787 rfl dL_law_788 dL_law_789 (by omega) hLn ?_
  refine Lpr.rd (j := 2) rfl rfl dL_law_790 dL_law_791 dL_law_793 rfl dL_law_794 dL_law_795 (by omega) hLn ?_
  refine Lpr.callM (d' := 200) (As := [.int (xs (i + 1)), .int (xs (i + 2))]) yoX12_alike ml_L_95 im_X12_alike se_X12_alike dL_law_796 rfl rfl rfl (Nat.le_of_ble_eq_true rfl) (by decide) hca rfl (Nat.le_of_ble_eq_true rfl) (fun n0 h0 => alike_M (by decide) hq hw hR) ?_
  rintro v s3 ⟨rfl, fX⟩
  refine Lpr.if_icmp_eq 1515 dL_law_799 rfl rfl ?_
  exact kk _ _ ((INV.S hI rfl rfl).X fX)
theorem lc_16 (hI : INV S s2) (hi : i + 6 ≤ Ln) (hLn : Ln ≤ 3072) (hca : ca ≤ 601024 ∧ sl ≤ 7293034) (kk : ∀ (S' : FS) (s2' : St), INV S' s2' → Lpr κ N b Ln xs gr ca sl S' s2' f 1515 (LL N b i) []) : Lpr κ N b Ln xs gr ca sl S s2 f 804 (LL N b i) [] := by
  obtain ⟨s, ⟨T, T2⟩, ⟨c, g, th⟩, u, F, k, ⟨pa, tu⟩, rd, tk⟩ := S
  obtain ⟨hi, t, pl, o, l, hw, hD, hM, hFa, h7, ⟨i6, i7, i8, i9, i10⟩, ⟨i11, i12⟩, ⟨i13a, i13b, i13c, i13d⟩, ⟨i14a, i14b, i14c⟩, i15⟩ := id hI
  have hq : qui s2 := hM.1
  have h47 : s2.1 47 = -1 := hM.2.1
  have hR : Rm T s2 0 c := hM.2.2.1
  have hp : c.1 0 = T.1.1 0 := hR.2.1.1
  have hu := hM.2.2.2.2.2
  have hw6 : nat (T.1.1 0) < 7 := hw.1.2
  have hIn : ∀ q, q < nat (T.1.1 0) → T.1.2.1 2 q = nI (nat (T.1.2.1 2 q)) := fun q hq => by
    have h2 := (hR.1.1.2.2 q (by rw [← hR.1.1.2.1]; exact hq))
    rw [h2.2.1]; exact h2.2.2.1
  refine Lpr.aload_n dL_law_804 rfl ?_
  refine Lpr.rd (j := 1) rfl rfl dL_law_805 dL_law_806 dL_law_808 rfl dL_law_809 dL_law_810 (by omega) hLn ?_
  refine Lpr.rd (j := 2) rfl rfl dL_law_811 dL_law_812 dL_law_814 rfl dL_law_815 dL_law_816 (by omega) hLn ?_
  refine Lpr.callB (d' := 200) (As := [.int (xs (i + 1)), .int (xs (i + 2))]) yoX11_keepInch ml_L_96 im_X11_keepInch se_X11_keepInch dL_law_817 rfl rfl rfl (Nat.le_of_ble_eq_true rfl) (by decide) hca rfl (Nat.le_of_ble_eq_true rfl) (fun n0 h0 => keepInch_F (by decide) hw) ?_
  rintro v S' ⟨rfl, rfl⟩
  refine Lpr.aload_n dL_law_820 rfl ?_
  refine Lpr.rd (j := 1) rfl rfl dL_law_821 dL_law_822 dL_law_824 rfl dL_law_825 dL_law_826 (by omega) hLn ?_
  refine Lpr.rd (j := 2) rfl rfl dL_law_827 dL_law_828 dL_law_830 rfl dL_law_831 dL_law_832 (by omega) hLn ?_
  refine Lpr.callM (d' := 200) (As := [.int (xs (i + 1)), .int (xs (i + 2))]) yoX12_keepInch ml_L_99 im_X12_keepInch se_X12_keepInch dL_law_833 rfl rfl rfl (Nat.le_of_ble_eq_true rfl) (by decide) hca rfl (Nat.le_of_ble_eq_true rfl) (fun n0 h0 => keepInch_M (by decide) hq hR) ?_
  rintro v s3 ⟨rfl, fX⟩
  refine Lpr.if_icmp_eq 1515 dL_law_836 rfl rfl ?_
  exact kk _ _ (hI.X fX)
theorem lc_17 (hI : INV S s2) (hi : i + 6 ≤ Ln) (hLn : Ln ≤ 3072) (hca : ca ≤ 601024 ∧ sl ≤ 7293034) (kk : ∀ (S' : FS) (s2' : St), INV S' s2' → Lpr κ N b Ln xs gr ca sl S' s2' f 1515 (LL N b i) []) : Lpr κ N b Ln xs gr ca sl S s2 f 841 (LL N b i) [] := by
  obtain ⟨s, ⟨T, T2⟩, ⟨c, g, th⟩, u, F, k, ⟨pa, tu⟩, rd, tk⟩ := S
  obtain ⟨hi, t, pl, o, l, hw, hD, hM, hFa, h7, ⟨i6, i7, i8, i9, i10⟩, ⟨i11, i12⟩, ⟨i13a, i13b, i13c, i13d⟩, ⟨i14a, i14b, i14c⟩, i15⟩ := id hI
  have hq : qui s2 := hM.1
  have h47 : s2.1 47 = -1 := hM.2.1
  have hR : Rm T s2 0 c := hM.2.2.1
  have hp : c.1 0 = T.1.1 0 := hR.2.1.1
  have hu := hM.2.2.2.2.2
  have hw6 : nat (T.1.1 0) < 7 := hw.1.2
  have hIn : ∀ q, q < nat (T.1.1 0) → T.1.2.1 2 q = nI (nat (T.1.2.1 2 q)) := fun q hq => by
    have h2 := (hR.1.1.2.2 q (by rw [← hR.1.1.2.1]; exact hq))
    rw [h2.2.1]; exact h2.2.2.1
  refine Lpr.aload_n dL_law_841 rfl ?_
  refine Lpr.rd (j := 1) rfl rfl dL_law_842 dL_law_843 dL_law_845 rfl dL_law_846 dL_law_847 (by omega) hLn ?_
  refine Lpr.rd (j := 2) rfl rfl dL_law_848 dL_law_849 dL_law_851 rfl dL_law_852 dL_law_853 (by omega) hLn ?_
  refine Lpr.callB (d' := 200) (As := [.int (xs (i + 1)), .int (xs (i + 2))]) yoX11_times ml_L_100 im_X11_times se_X11_times dL_law_854 rfl rfl rfl (Nat.le_of_ble_eq_true rfl) (by decide) hca rfl (Nat.le_of_ble_eq_true rfl) (fun n0 h0 => times_F (by decide) hw) ?_
  rintro v S' ⟨rfl, pa9, rfl⟩
  refine Lpr.aload_n dL_law_857 rfl ?_
  refine Lpr.rd (j := 1) rfl rfl dL_law_858 dL_law_859 dL_law_861 rfl dL_law_862 dL_law_863 (by omega) hLn ?_
  refine Lpr.rd (j := 2) rfl rfl dL_law_864 dL_law_865 dL_law_867 rfl dL_law_868 dL_law_869 (by omega) hLn ?_
  refine Lpr.callM (d' := 200) (As := [.int (xs (i + 1)), .int (xs (i + 2))]) yoX12_times ml_L_103 im_X12_times se_X12_times dL_law_870 rfl rfl rfl (Nat.le_of_ble_eq_true rfl) (by decide) hca rfl (Nat.le_of_ble_eq_true rfl) (fun n0 h0 => times_M (by decide) hq hR) ?_
  rintro v s3 ⟨rfl, fX⟩
  refine Lpr.lcmpEq 1515 dL_law_873 dL_law_874 rfl rfl ?_
  exact kk _ _ ((INV.S hI rfl rfl).X fX)
theorem lc_18 (hI : INV S s2) (hi : i + 6 ≤ Ln) (hLn : Ln ≤ 3072) (hca : ca ≤ 601024 ∧ sl ≤ 7293034) (kk : ∀ (S' : FS) (s2' : St), INV S' s2' → Lpr κ N b Ln xs gr ca sl S' s2' f 1515 (LL N b i) []) : Lpr κ N b Ln xs gr ca sl S s2 f 879 (LL N b i) [] := by
  obtain ⟨s, ⟨T, T2⟩, ⟨c, g, th⟩, u, F, k, ⟨pa, tu⟩, rd, tk⟩ := S
  obtain ⟨hi, t, pl, o, l, hw, hD, hM, hFa, h7, ⟨i6, i7, i8, i9, i10⟩, ⟨i11, i12⟩, ⟨i13a, i13b, i13c, i13d⟩, ⟨i14a, i14b, i14c⟩, i15⟩ := id hI
  have hq : qui s2 := hM.1
  have h47 : s2.1 47 = -1 := hM.2.1
  have hR : Rm T s2 0 c := hM.2.2.1
  have hp : c.1 0 = T.1.1 0 := hR.2.1.1
  have hu := hM.2.2.2.2.2
  have hw6 : nat (T.1.1 0) < 7 := hw.1.2
  have hIn : ∀ q, q < nat (T.1.1 0) → T.1.2.1 2 q = nI (nat (T.1.2.1 2 q)) := fun q hq => by
    have h2 := (hR.1.1.2.2 q (by rw [← hR.1.1.2.1]; exact hq))
    rw [h2.2.1]; exact h2.2.2.1
  refine Lpr.aload_n dL_law_879 rfl ?_
  refine Lpr.rd (j := 1) rfl rfl dL_law_880 dL_law_881 dL_law_883 rfl dL_law_884 dL_law_885 (by omega) hLn ?_
  refine Lpr.rd (j := 2) rfl rfl dL_law_886 dL_law_887 dL_law_889 rfl dL_law_890 dL_law_891 (by omega) hLn ?_
  refine Lpr.rd (j := 3) rfl rfl dL_law_892 dL_law_893 dL_law_895 rfl dL_law_896 dL_law_897 (by omega) hLn ?_
  refine Lpr.callB (d' := 200) (As := [.int (xs (i + 1)), .int (xs (i + 2)), .int (xs (i + 3))]) yoX11_lightings ml_L_104 im_X11_lightings se_X11_lightings dL_law_898 rfl rfl rfl (Nat.le_of_ble_eq_true rfl) (by decide) hca rfl (Nat.le_of_ble_eq_true rfl) (fun n0 h0 => lightings_F (by decide) hw) ?_
  rintro v S' ⟨rfl, pa9, rfl⟩
  refine Lpr.aload_n dL_law_901 rfl ?_
  refine Lpr.rd (j := 1) rfl rfl dL_law_902 dL_law_903 dL_law_905 rfl dL_law_906 dL_law_907 (by omega) hLn ?_
  refine Lpr.rd (j := 2) rfl rfl dL_law_908 dL_law_909 dL_law_911 rfl dL_law_912 dL_law_913 (by omega) hLn ?_
  refine Lpr.rd (j := 3) rfl rfl dL_law_914 dL_law_915 dL_law_917 rfl dL_law_918 dL_law_919 (by omega) hLn ?_
  refine Lpr.callM (d' := 200) (As := [.int (xs (i + 1)), .int (xs (i + 2)), .int (xs (i + 3))]) yoX12_lightings ml_L_107 im_X12_lightings se_X12_lightings dL_law_920 rfl rfl rfl (Nat.le_of_ble_eq_true rfl) (by decide) hca rfl (Nat.le_of_ble_eq_true rfl) (fun n0 h0 => lightings_M (by decide) hq hR) ?_
  rintro v s3 ⟨rfl, fX⟩
  refine Lpr.if_icmp_eq 1515 dL_law_923 rfl rfl ?_
  exact kk _ _ ((INV.S hI rfl rfl).X fX)
theorem lc_19 (hI : INV S s2) (hi : i + 6 ≤ Ln) (hLn : Ln ≤ 3072) (hca : ca ≤ 601024 ∧ sl ≤ 7293034) (kk : ∀ (S' : FS) (s2' : St), INV S' s2' → Lpr κ N b Ln xs gr ca sl S' s2' f 1515 (LL N b i) []) : Lpr κ N b Ln xs gr ca sl S s2 f 928 (LL N b i) [] := by
  obtain ⟨s, ⟨T, T2⟩, ⟨c, g, th⟩, u, F, k, ⟨pa, tu⟩, rd, tk⟩ := S
  obtain ⟨hi, t, pl, o, l, hw, hD, hM, hFa, h7, ⟨i6, i7, i8, i9, i10⟩, ⟨i11, i12⟩, ⟨i13a, i13b, i13c, i13d⟩, ⟨i14a, i14b, i14c⟩, i15⟩ := id hI
  have hq : qui s2 := hM.1
  have h47 : s2.1 47 = -1 := hM.2.1
  have hR : Rm T s2 0 c := hM.2.2.1
  have hp : c.1 0 = T.1.1 0 := hR.2.1.1
  have hu := hM.2.2.2.2.2
  have hw6 : nat (T.1.1 0) < 7 := hw.1.2
  have hIn : ∀ q, q < nat (T.1.1 0) → T.1.2.1 2 q = nI (nat (T.1.2.1 2 q)) := fun q hq => by
    have h2 := (hR.1.1.2.2 q (by rw [← hR.1.1.2.1]; exact hq))
    rw [h2.2.1]; exact h2.2.2.1
  refine Lpr.aload_n dL_law_928 rfl ?_
  refine Lpr.callB (d' := 200) (As := []) yoX11_cover ml_L_108 im_X11_cover se_X11_cover dL_law_929 rfl rfl rfl (Nat.le_of_ble_eq_true rfl) (by decide) hca rfl (Nat.le_of_ble_eq_true rfl) (fun n0 h0 => cover_F (by decide) hw hp) ?_
  rintro v S' ⟨rfl, rfl⟩
  refine Lpr.aload_n dL_law_932 rfl ?_
  refine Lpr.callM (d' := 200) (As := []) yoX12_cover ml_L_111 im_X12_cover se_X12_cover dL_law_933 rfl rfl rfl (Nat.le_of_ble_eq_true rfl) (by decide) hca rfl (Nat.le_of_ble_eq_true rfl) (fun n0 h0 => cover_M (by decide) hq hR) ?_
  rintro v s3 ⟨rfl, fX⟩
  refine Lpr.if_icmp_eq 1515 dL_law_936 rfl rfl ?_
  exact kk _ _ (hI.X fX)
theorem lc_20 (hI : INV S s2) (hi : i + 6 ≤ Ln) (hLn : Ln ≤ 3072) (hca : ca ≤ 601024 ∧ sl ≤ 7293034) (kk : ∀ (S' : FS) (s2' : St), INV S' s2' → Lpr κ N b Ln xs gr ca sl S' s2' f 1515 (LL N b i) []) : Lpr κ N b Ln xs gr ca sl S s2 f 941 (LL N b i) [] := by
  obtain ⟨s, ⟨T, T2⟩, ⟨c, g, th⟩, u, F, k, ⟨pa, tu⟩, rd, tk⟩ := S
  obtain ⟨hi, t, pl, o, l, hw, hD, hM, hFa, h7, ⟨i6, i7, i8, i9, i10⟩, ⟨i11, i12⟩, ⟨i13a, i13b, i13c, i13d⟩, ⟨i14a, i14b, i14c⟩, i15⟩ := id hI
  have hq : qui s2 := hM.1
  have h47 : s2.1 47 = -1 := hM.2.1
  have hR : Rm T s2 0 c := hM.2.2.1
  have hp : c.1 0 = T.1.1 0 := hR.2.1.1
  have hu := hM.2.2.2.2.2
  have hw6 : nat (T.1.1 0) < 7 := hw.1.2
  have hIn : ∀ q, q < nat (T.1.1 0) → T.1.2.1 2 q = nI (nat (T.1.2.1 2 q)) := fun q hq => by
    have h2 := (hR.1.1.2.2 q (by rw [← hR.1.1.2.1]; exact hq))
    rw [h2.2.1]; exact h2.2.2.1
  refine Lpr.aload_n dL_law_941 rfl ?_
  refine Lpr.rd (j := 1) rfl rfl dL_law_942 dL_law_943 dL_law_945 rfl dL_law_946 dL_law_947 (by omega) hLn ?_
  refine Lpr.callB (d' := 200) (As := [.int (xs (i + 1))]) yoX11_last ml_L_112 im_X11_last se_X11_last dL_law_948 rfl rfl rfl (Nat.le_of_ble_eq_true rfl) (by decide) hca rfl (Nat.le_of_ble_eq_true rfl) (fun n0 h0 => last_F (by decide) hw) ?_
  rintro v S' ⟨rfl, rfl⟩
  refine Lpr.aload_n dL_law_951 rfl ?_
  refine Lpr.rd (j := 1) rfl rfl dL_law_952 dL_law_953 dL_law_955 rfl dL_law_956 dL_law_957 (by omega) hLn ?_
  refine Lpr.callM (d' := 200) (As := [.int (xs (i + 1))]) yoX12_last ml_L_115 im_X12_last se_X12_last dL_law_958 rfl rfl rfl (Nat.le_of_ble_eq_true rfl) (by decide) hca rfl (Nat.le_of_ble_eq_true rfl) (fun n0 h0 => last_M (by decide) hq hR) ?_
  rintro v s3 ⟨rfl, fX⟩
  refine Lpr.if_icmp_eq 1515 dL_law_961 rfl rfl ?_
  exact kk _ _ (hI.X fX)
theorem lc_21 (hI : INV S s2) (hi : i + 6 ≤ Ln) (hLn : Ln ≤ 3072) (hca : ca ≤ 601024 ∧ sl ≤ 7293034) (kk : ∀ (S' : FS) (s2' : St), INV S' s2' → Lpr κ N b Ln xs gr ca sl S' s2' f 1515 (LL N b i) []) : Lpr κ N b Ln xs gr ca sl S s2 f 966 (LL N b i) [] := by
  obtain ⟨s, ⟨T, T2⟩, ⟨c, g, th⟩, u, F, k, ⟨pa, tu⟩, rd, tk⟩ := S
  obtain ⟨hi, t, pl, o, l, hw, hD, hM, hFa, h7, ⟨i6, i7, i8, i9, i10⟩, ⟨i11, i12⟩, ⟨i13a, i13b, i13c, i13d⟩, ⟨i14a, i14b, i14c⟩, i15⟩ := id hI
  have hq : qui s2 := hM.1
  have h47 : s2.1 47 = -1 := hM.2.1
  have hR : Rm T s2 0 c := hM.2.2.1
  have hp : c.1 0 = T.1.1 0 := hR.2.1.1
  have hu := hM.2.2.2.2.2
  have hw6 : nat (T.1.1 0) < 7 := hw.1.2
  have hIn : ∀ q, q < nat (T.1.1 0) → T.1.2.1 2 q = nI (nat (T.1.2.1 2 q)) := fun q hq => by
    have h2 := (hR.1.1.2.2 q (by rw [← hR.1.1.2.1]; exact hq))
    rw [h2.2.1]; exact h2.2.2.1
  refine Lpr.aload_n dL_law_966 rfl ?_
  refine Lpr.rd (j := 1) rfl rfl dL_law_967 dL_law_968 dL_law_970 rfl dL_law_971 dL_law_972 (by omega) hLn ?_
  refine Lpr.callB (d' := 200) (As := [.int (xs (i + 1))]) yoX11_match ml_L_116 im_X11_match se_X11_match dL_law_973 rfl rfl rfl (Nat.le_of_ble_eq_true rfl) (by decide) hca rfl (Nat.le_of_ble_eq_true rfl) (fun n0 h0 => match_F (by decide) hR.1 hw hp) ?_
  rintro v S' ⟨rfl, s9, rfl, ⟨o1, o2, o3⟩⟩
  refine Lpr.aload_n dL_law_976 rfl ?_
  refine Lpr.rd (j := 1) rfl rfl dL_law_977 dL_law_978 dL_law_980 rfl dL_law_981 dL_law_982 (by omega) hLn ?_
  refine Lpr.callM (d' := 200) (As := [.int (xs (i + 1))]) yoX12_match ml_L_119 im_X12_match se_X12_match dL_law_983 rfl rfl rfl (Nat.le_of_ble_eq_true rfl) (by decide) hca rfl (Nat.le_of_ble_eq_true rfl) (fun n0 h0 => match_M (by decide) hR) ?_
  rintro v s3 ⟨rfl, fX⟩
  refine Lpr.if_icmp_eq 1515 dL_law_986 rfl rfl ?_
  exact kk _ _ ((INV.S hI o1 o2).X fX)
theorem lc_22 (hI : INV S s2) (hi : i + 6 ≤ Ln) (hLn : Ln ≤ 3072) (hca : ca ≤ 601024 ∧ sl ≤ 7293034) (kk : ∀ (S' : FS) (s2' : St), INV S' s2' → Lpr κ N b Ln xs gr ca sl S' s2' f 1515 (LL N b i) []) : Lpr κ N b Ln xs gr ca sl S s2 f 991 (LL N b i) [] := by
  obtain ⟨s, ⟨T, T2⟩, ⟨c, g, th⟩, u, F, k, ⟨pa, tu⟩, rd, tk⟩ := S
  obtain ⟨hi, t, pl, o, l, hw, hD, hM, hFa, h7, ⟨i6, i7, i8, i9, i10⟩, ⟨i11, i12⟩, ⟨i13a, i13b, i13c, i13d⟩, ⟨i14a, i14b, i14c⟩, i15⟩ := id hI
  have hq : qui s2 := hM.1
  have h47 : s2.1 47 = -1 := hM.2.1
  have hR : Rm T s2 0 c := hM.2.2.1
  have hp : c.1 0 = T.1.1 0 := hR.2.1.1
  have hu := hM.2.2.2.2.2
  have hw6 : nat (T.1.1 0) < 7 := hw.1.2
  have hIn : ∀ q, q < nat (T.1.1 0) → T.1.2.1 2 q = nI (nat (T.1.2.1 2 q)) := fun q hq => by
    have h2 := (hR.1.1.2.2 q (by rw [← hR.1.1.2.1]; exact hq))
    rw [h2.2.1]; exact h2.2.2.1
  refine Lpr.aload_n dL_law_991 rfl ?_
  refine Lpr.rd (j := 1) rfl rfl dL_law_992 dL_law_993 dL_law_995 rfl dL_law_996 dL_law_997 (by omega) hLn ?_
  refine Lpr.rd (j := 2) rfl rfl dL_law_998 dL_law_999 dL_law_1001 rfl dL_law_1002 dL_law_1003 (by omega) hLn ?_
  refine Lpr.callB (d' := 200) (As := [.int (xs (i + 1)), .int (xs (i + 2))]) yoX11_game ml_L_120 im_X11_game se_X11_game dL_law_1004 rfl rfl rfl (Nat.le_of_ble_eq_true rfl) (by decide) hca rfl (Nat.le_of_ble_eq_true rfl) (fun n0 h0 => game_F (by decide) hw hI.okC) ?_
  rintro v S' ⟨rfl, tu9, rfl⟩
  refine Lpr.aload_n dL_law_1007 rfl ?_
  refine Lpr.rd (j := 1) rfl rfl dL_law_1008 dL_law_1009 dL_law_1011 rfl dL_law_1012 dL_law_1013 (by omega) hLn ?_
  refine Lpr.rd (j := 2) rfl rfl dL_law_1014 dL_law_1015 dL_law_1017 rfl dL_law_1018 dL_law_1019 (by omega) hLn ?_
  refine Lpr.callM (d' := 200) (As := [.int (xs (i + 1)), .int (xs (i + 2))]) yoX12_game ml_L_123 im_X12_game se_X12_game dL_law_1020 rfl rfl rfl (Nat.le_of_ble_eq_true rfl) (by decide) hca rfl (Nat.le_of_ble_eq_true rfl) (fun n0 h0 => game_M (by decide) hR) ?_
  rintro v s3 ⟨rfl, fX⟩
  refine Lpr.if_icmp_eq 1515 dL_law_1023 rfl rfl ?_
  exact kk _ _ ((INV.S hI rfl rfl).X fX)
theorem lc_23 (hI : INV S s2) (hi : i + 6 ≤ Ln) (hLn : Ln ≤ 3072) (hca : ca ≤ 601024 ∧ sl ≤ 7293034) (kk : ∀ (S' : FS) (s2' : St), INV S' s2' → Lpr κ N b Ln xs gr ca sl S' s2' f 1515 (LL N b i) []) : Lpr κ N b Ln xs gr ca sl S s2 f 1028 (LL N b i) [] := by
  obtain ⟨s, ⟨T, T2⟩, ⟨c, g, th⟩, u, F, k, ⟨pa, tu⟩, rd, tk⟩ := S
  obtain ⟨hi, t, pl, o, l, hw, hD, hM, hFa, h7, ⟨i6, i7, i8, i9, i10⟩, ⟨i11, i12⟩, ⟨i13a, i13b, i13c, i13d⟩, ⟨i14a, i14b, i14c⟩, i15⟩ := id hI
  have hq : qui s2 := hM.1
  have h47 : s2.1 47 = -1 := hM.2.1
  have hR : Rm T s2 0 c := hM.2.2.1
  have hp : c.1 0 = T.1.1 0 := hR.2.1.1
  have hu := hM.2.2.2.2.2
  have hw6 : nat (T.1.1 0) < 7 := hw.1.2
  have hIn : ∀ q, q < nat (T.1.1 0) → T.1.2.1 2 q = nI (nat (T.1.2.1 2 q)) := fun q hq => by
    have h2 := (hR.1.1.2.2 q (by rw [← hR.1.1.2.1]; exact hq))
    rw [h2.2.1]; exact h2.2.2.1
  refine Lpr.aload_n dL_law_1028 rfl ?_
  refine Lpr.rd (j := 1) rfl rfl dL_law_1029 dL_law_1030 dL_law_1032 rfl dL_law_1033 dL_law_1034 (by omega) hLn ?_
  refine Lpr.rd (j := 2) rfl rfl dL_law_1035 dL_law_1036 dL_law_1038 rfl dL_law_1039 dL_law_1040 (by omega) hLn ?_
  refine Lpr.callB (d' := 200) (As := [.int (xs (i + 1)), .int (xs (i + 2))]) yoX11_rests ml_L_124 im_X11_rests se_X11_rests dL_law_1041 rfl rfl rfl (Nat.le_of_ble_eq_true rfl) (by decide) hca rfl (Nat.le_of_ble_eq_true rfl) (fun n0 h0 => rests_F (by decide) hw) ?_
  rintro v S' ⟨rfl, rfl⟩
  refine Lpr.aload_n dL_law_1044 rfl ?_
  refine Lpr.rd (j := 1) rfl rfl dL_law_1045 dL_law_1046 dL_law_1048 rfl dL_law_1049 dL_law_1050 (by omega) hLn ?_
  refine Lpr.rd (j := 2) rfl rfl dL_law_1051 dL_law_1052 dL_law_1054 rfl dL_law_1055 dL_law_1056 (by omega) hLn ?_
  refine Lpr.callM (d' := 200) (As := [.int (xs (i + 1)), .int (xs (i + 2))]) yoX12_rests ml_L_127 im_X12_rests se_X12_rests dL_law_1057 rfl rfl rfl (Nat.le_of_ble_eq_true rfl) (by decide) hca rfl (Nat.le_of_ble_eq_true rfl) (fun n0 h0 => rests_M (by decide) hq hR) ?_
  rintro v s3 ⟨rfl, fX⟩
  refine Lpr.if_icmp_eq 1515 dL_law_1060 rfl rfl ?_
  exact kk _ _ (hI.X fX)
theorem lc_24 (hI : INV S s2) (hi : i + 6 ≤ Ln) (hLn : Ln ≤ 3072) (hca : ca ≤ 601024 ∧ sl ≤ 7293034) (kk : ∀ (S' : FS) (s2' : St), INV S' s2' → Lpr κ N b Ln xs gr ca sl S' s2' f 1515 (LL N b i) []) : Lpr κ N b Ln xs gr ca sl S s2 f 1065 (LL N b i) [] := by
  obtain ⟨s, ⟨T, T2⟩, ⟨c, g, th⟩, u, F, k, ⟨pa, tu⟩, rd, tk⟩ := S
  obtain ⟨hi, t, pl, o, l, hw, hD, hM, hFa, h7, ⟨i6, i7, i8, i9, i10⟩, ⟨i11, i12⟩, ⟨i13a, i13b, i13c, i13d⟩, ⟨i14a, i14b, i14c⟩, i15⟩ := id hI
  have hq : qui s2 := hM.1
  have h47 : s2.1 47 = -1 := hM.2.1
  have hR : Rm T s2 0 c := hM.2.2.1
  have hp : c.1 0 = T.1.1 0 := hR.2.1.1
  have hu := hM.2.2.2.2.2
  have hw6 : nat (T.1.1 0) < 7 := hw.1.2
  have hIn : ∀ q, q < nat (T.1.1 0) → T.1.2.1 2 q = nI (nat (T.1.2.1 2 q)) := fun q hq => by
    have h2 := (hR.1.1.2.2 q (by rw [← hR.1.1.2.1]; exact hq))
    rw [h2.2.1]; exact h2.2.2.1
  refine Lpr.aload_n dL_law_1065 rfl ?_
  refine Lpr.rd (j := 1) rfl rfl dL_law_1066 dL_law_1067 dL_law_1069 rfl dL_law_1070 dL_law_1071 (by omega) hLn ?_
  refine Lpr.rd (j := 2) rfl rfl dL_law_1072 dL_law_1073 dL_law_1075 rfl dL_law_1076 dL_law_1077 (by omega) hLn ?_
  refine Lpr.rd (j := 3) rfl rfl dL_law_1078 dL_law_1079 dL_law_1081 rfl dL_law_1082 dL_law_1083 (by omega) hLn ?_
  refine Lpr.callB (d' := 200) (As := [.int (xs (i + 1)), .int (xs (i + 2)), .int (xs (i + 3))]) yoX11_rest ml_L_128 im_X11_rest se_X11_rest dL_law_1084 rfl rfl rfl (Nat.le_of_ble_eq_true rfl) (by decide) hca rfl (Nat.le_of_ble_eq_true rfl) (fun n0 h0 => rest_F (by decide) hw) ?_
  rintro v S' ⟨rfl, rfl⟩
  refine Lpr.aload_n dL_law_1087 rfl ?_
  refine Lpr.rd (j := 1) rfl rfl dL_law_1088 dL_law_1089 dL_law_1091 rfl dL_law_1092 dL_law_1093 (by omega) hLn ?_
  refine Lpr.rd (j := 2) rfl rfl dL_law_1094 dL_law_1095 dL_law_1097 rfl dL_law_1098 dL_law_1099 (by omega) hLn ?_
  refine Lpr.rd (j := 3) rfl rfl dL_law_1100 dL_law_1101 dL_law_1103 rfl dL_law_1104 dL_law_1105 (by omega) hLn ?_
  refine Lpr.callM (d' := 200) (As := [.int (xs (i + 1)), .int (xs (i + 2)), .int (xs (i + 3))]) yoX12_rest ml_L_131 im_X12_rest se_X12_rest dL_law_1106 rfl rfl rfl (Nat.le_of_ble_eq_true rfl) (by decide) hca rfl (Nat.le_of_ble_eq_true rfl) (fun n0 h0 => rest_M (by decide) hq hR) ?_
  rintro v s3 ⟨rfl, fX⟩
  refine Lpr.if_icmp_eq 1515 dL_law_1109 rfl rfl ?_
  exact kk _ _ (hI.X fX)
theorem lc_25 (hI : INV S s2) (hi : i + 6 ≤ Ln) (hLn : Ln ≤ 3072) (hca : ca ≤ 601024 ∧ sl ≤ 7293034) (kk : ∀ (S' : FS) (s2' : St), INV S' s2' → Lpr κ N b Ln xs gr ca sl S' s2' f 1515 (LL N b i) []) : Lpr κ N b Ln xs gr ca sl S s2 f 1114 (LL N b i) [] := by
  obtain ⟨s, ⟨T, T2⟩, ⟨c, g, th⟩, u, F, k, ⟨pa, tu⟩, rd, tk⟩ := S
  obtain ⟨hi, t, pl, o, l, hw, hD, hM, hFa, h7, ⟨i6, i7, i8, i9, i10⟩, ⟨i11, i12⟩, ⟨i13a, i13b, i13c, i13d⟩, ⟨i14a, i14b, i14c⟩, i15⟩ := id hI
  have hq : qui s2 := hM.1
  have h47 : s2.1 47 = -1 := hM.2.1
  have hR : Rm T s2 0 c := hM.2.2.1
  have hp : c.1 0 = T.1.1 0 := hR.2.1.1
  have hu := hM.2.2.2.2.2
  have hw6 : nat (T.1.1 0) < 7 := hw.1.2
  have hIn : ∀ q, q < nat (T.1.1 0) → T.1.2.1 2 q = nI (nat (T.1.2.1 2 q)) := fun q hq => by
    have h2 := (hR.1.1.2.2 q (by rw [← hR.1.1.2.1]; exact hq))
    rw [h2.2.1]; exact h2.2.2.1
  refine Lpr.aload_n dL_law_1114 rfl ?_
  refine Lpr.rd (j := 1) rfl rfl dL_law_1115 dL_law_1116 dL_law_1118 rfl dL_law_1119 dL_law_1120 (by omega) hLn ?_
  refine Lpr.rd (j := 2) rfl rfl dL_law_1121 dL_law_1122 dL_law_1124 rfl dL_law_1125 dL_law_1126 (by omega) hLn ?_
  refine Lpr.callB (d' := 200) (As := [.int (xs (i + 1)), .int (xs (i + 2))]) yoX11_calm ml_L_132 im_X11_calm se_X11_calm dL_law_1127 rfl rfl rfl (Nat.le_of_ble_eq_true rfl) (by decide) hca rfl (Nat.le_of_ble_eq_true rfl) (fun n0 h0 => calm_F (by decide) (Nat.le_of_lt_succ hD.2) hD.1) ?_
  rintro v S' ⟨rfl, rfl⟩
  refine Lpr.aload_n dL_law_1130 rfl ?_
  refine Lpr.rd (j := 1) rfl rfl dL_law_1131 dL_law_1132 dL_law_1134 rfl dL_law_1135 dL_law_1136 (by omega) hLn ?_
  refine Lpr.rd (j := 2) rfl rfl dL_law_1137 dL_law_1138 dL_law_1140 rfl dL_law_1141 dL_law_1142 (by omega) hLn ?_
  refine Lpr.callM (d' := 200) (As := [.int (xs (i + 1)), .int (xs (i + 2))]) yoX12_calm ml_L_135 im_X12_calm se_X12_calm dL_law_1143 rfl rfl rfl (Nat.le_of_ble_eq_true rfl) (by decide) hca rfl (Nat.le_of_ble_eq_true rfl) (fun n0 h0 => calm_M (by decide) (Nat.le_of_lt_succ hD.2) hD.1 hR.1) ?_
  rintro v s3 ⟨rfl, fX⟩
  refine Lpr.lcmpEq 1515 dL_law_1146 dL_law_1147 rfl rfl ?_
  exact kk _ _ (hI.X fX)
theorem lc_27 (hI : INV S s2) (hi : i + 6 ≤ Ln) (hLn : Ln ≤ 3072) (hca : ca ≤ 601024 ∧ sl ≤ 7293034) (kk : ∀ (S' : FS) (s2' : St), INV S' s2' → Lpr κ N b Ln xs gr ca sl S' s2' f 1515 (LL N b i) []) : Lpr κ N b Ln xs gr ca sl S s2 f 1229 (LL N b i) [] := by
  obtain ⟨s, ⟨T, T2⟩, ⟨c, g, th⟩, u, F, k, ⟨pa, tu⟩, rd, tk⟩ := S
  obtain ⟨hi, t, pl, o, l, hw, hD, hM, hFa, h7, ⟨i6, i7, i8, i9, i10⟩, ⟨i11, i12⟩, ⟨i13a, i13b, i13c, i13d⟩, ⟨i14a, i14b, i14c⟩, i15⟩ := id hI
  have hq : qui s2 := hM.1
  have h47 : s2.1 47 = -1 := hM.2.1
  have hR : Rm T s2 0 c := hM.2.2.1
  have hp : c.1 0 = T.1.1 0 := hR.2.1.1
  have hu := hM.2.2.2.2.2
  have hw6 : nat (T.1.1 0) < 7 := hw.1.2
  have hIn : ∀ q, q < nat (T.1.1 0) → T.1.2.1 2 q = nI (nat (T.1.2.1 2 q)) := fun q hq => by
    have h2 := (hR.1.1.2.2 q (by rw [← hR.1.1.2.1]; exact hq))
    rw [h2.2.1]; exact h2.2.2.1
  refine Lpr.aload_n dL_law_1229 rfl ?_
  refine Lpr.rd (j := 1) rfl rfl dL_law_1230 dL_law_1231 dL_law_1233 rfl dL_law_1234 dL_law_1235 (by omega) hLn ?_
  refine Lpr.callB (d' := 200) (As := [.int (xs (i + 1))]) yoX11_strike ml_L_141 im_X11_strike se_X11_strike dL_law_1236 rfl rfl rfl (Nat.le_of_ble_eq_true rfl) (by decide) hca rfl (Nat.le_of_ble_eq_true rfl) (fun n0 h0 => strike_F (by decide) hFa.1) ?_
  rintro v S' ⟨rfl, rfl⟩
  refine Lpr.aload_n dL_law_1239 rfl ?_
  refine Lpr.rd (j := 1) rfl rfl dL_law_1240 dL_law_1241 dL_law_1243 rfl dL_law_1244 dL_law_1245 (by omega) hLn ?_
  refine Lpr.callM (d' := 200) (As := [.int (xs (i + 1))]) yoX12_strike ml_L_144 im_X12_strike se_X12_strike dL_law_1246 rfl rfl rfl (Nat.le_of_ble_eq_true rfl) (by decide) hca rfl (Nat.le_of_ble_eq_true rfl) (fun n0 h0 => strike_M (by decide) hFa) ?_
  rintro v s3 ⟨rfl, hf, fF⟩
  refine Lpr.if_icmp_eq 1515 dL_law_1249 rfl rfl ?_
  exact kk _ _ (hI.fac hf fF)
theorem lc_28 (hI : INV S s2) (hi : i + 6 ≤ Ln) (hLn : Ln ≤ 3072) (hca : ca ≤ 601024 ∧ sl ≤ 7293034) (kk : ∀ (S' : FS) (s2' : St), INV S' s2' → Lpr κ N b Ln xs gr ca sl S' s2' f 1515 (LL N b i) []) : Lpr κ N b Ln xs gr ca sl S s2 f 1254 (LL N b i) [] := by
  obtain ⟨s, ⟨T, T2⟩, ⟨c, g, th⟩, u, F, k, ⟨pa, tu⟩, rd, tk⟩ := S
  obtain ⟨hi, t, pl, o, l, hw, hD, hM, hFa, h7, ⟨i6, i7, i8, i9, i10⟩, ⟨i11, i12⟩, ⟨i13a, i13b, i13c, i13d⟩, ⟨i14a, i14b, i14c⟩, i15⟩ := id hI
  have hq : qui s2 := hM.1
  have h47 : s2.1 47 = -1 := hM.2.1
  have hR : Rm T s2 0 c := hM.2.2.1
  have hp : c.1 0 = T.1.1 0 := hR.2.1.1
  have hu := hM.2.2.2.2.2
  have hw6 : nat (T.1.1 0) < 7 := hw.1.2
  have hIn : ∀ q, q < nat (T.1.1 0) → T.1.2.1 2 q = nI (nat (T.1.2.1 2 q)) := fun q hq => by
    have h2 := (hR.1.1.2.2 q (by rw [← hR.1.1.2.1]; exact hq))
    rw [h2.2.1]; exact h2.2.2.1
  refine Lpr.aload_n dL_law_1254 rfl ?_
  refine Lpr.rd (j := 1) rfl rfl dL_law_1255 dL_law_1256 dL_law_1258 rfl dL_law_1259 dL_law_1260 (by omega) hLn ?_
  refine Lpr.callB (d' := 200) (As := [.int (xs (i + 1))]) yoX11_known ml_L_145 im_X11_known se_X11_known dL_law_1261 rfl rfl rfl (Nat.le_of_ble_eq_true rfl) (by decide) hca rfl (Nat.le_of_ble_eq_true rfl) (fun n0 h0 => known_F (by decide)) ?_
  rintro v S' ⟨rfl, rfl⟩
  refine Lpr.aload_n dL_law_1264 rfl ?_
  refine Lpr.rd (j := 1) rfl rfl dL_law_1265 dL_law_1266 dL_law_1268 rfl dL_law_1269 dL_law_1270 (by omega) hLn ?_
  refine Lpr.callM (d' := 200) (As := [.int (xs (i + 1))]) yoX12_known ml_L_149 im_X12_known se_X12_known dL_law_1271 rfl rfl rfl (Nat.le_of_ble_eq_true rfl) (by decide) hca rfl (Nat.le_of_ble_eq_true rfl) (fun n0 h0 => known_M (by decide) hFa) ?_
  rintro v s3 ⟨rfl, hf, fF⟩
  refine Lpr.if_icmp_eq 1515 dL_law_1274 rfl rfl ?_
  exact kk _ _ (hI.fac hf fF)
theorem lc_31 (hI : INV S s2) (hi : i + 6 ≤ Ln) (hLn : Ln ≤ 3072) (hca : ca ≤ 601024 ∧ sl ≤ 7293034) (kk : ∀ (S' : FS) (s2' : St), INV S' s2' → Lpr κ N b Ln xs gr ca sl S' s2' f 1515 (LL N b i) []) : Lpr κ N b Ln xs gr ca sl S s2 f 1341 (LL N b i) [] := by
  obtain ⟨s, ⟨T, T2⟩, ⟨c, g, th⟩, u, F, k, ⟨pa, tu⟩, rd, tk⟩ := S
  obtain ⟨hi, t, pl, o, l, hw, hD, hM, hFa, h7, ⟨i6, i7, i8, i9, i10⟩, ⟨i11, i12⟩, ⟨i13a, i13b, i13c, i13d⟩, ⟨i14a, i14b, i14c⟩, i15⟩ := id hI
  have hq : qui s2 := hM.1
  have h47 : s2.1 47 = -1 := hM.2.1
  have hR : Rm T s2 0 c := hM.2.2.1
  have hp : c.1 0 = T.1.1 0 := hR.2.1.1
  have hu := hM.2.2.2.2.2
  have hw6 : nat (T.1.1 0) < 7 := hw.1.2
  have hIn : ∀ q, q < nat (T.1.1 0) → T.1.2.1 2 q = nI (nat (T.1.2.1 2 q)) := fun q hq => by
    have h2 := (hR.1.1.2.2 q (by rw [← hR.1.1.2.1]; exact hq))
    rw [h2.2.1]; exact h2.2.2.1
  refine Lpr.aload_n dL_law_1341 rfl ?_
  refine Lpr.rd (j := 1) rfl rfl dL_law_1342 dL_law_1343 dL_law_1345 rfl dL_law_1346 dL_law_1347 (by omega) hLn ?_
  refine Lpr.rd (j := 2) rfl rfl dL_law_1348 dL_law_1349 dL_law_1351 rfl dL_law_1352 dL_law_1353 (by omega) hLn ?_
  refine Lpr.rd (j := 3) rfl rfl dL_law_1354 dL_law_1355 dL_law_1357 rfl dL_law_1358 dL_law_1359 (by omega) hLn ?_
  refine Lpr.rd (j := 4) rfl rfl dL_law_1360 dL_law_1361 dL_law_1363 rfl dL_law_1364 dL_law_1365 (by omega) hLn ?_
  refine Lpr.callB (d' := 200) (As := [.int (xs (i + 1)), .int (xs (i + 2)), .int (xs (i + 3)), .int (xs (i + 4))]) yoX11_chance ml_L_158 im_X11_chance se_X11_chance dL_law_1366 rfl rfl rfl (Nat.le_of_ble_eq_true rfl) (by decide) hca rfl (Nat.le_of_ble_eq_true rfl) (fun n0 h0 => chance_F (by decide) hw hp) ?_
  rintro v S' ⟨rfl, th9, k9, rfl⟩
  refine Lpr.aload_n dL_law_1369 rfl ?_
  refine Lpr.rd (j := 1) rfl rfl dL_law_1370 dL_law_1371 dL_law_1373 rfl dL_law_1374 dL_law_1375 (by omega) hLn ?_
  refine Lpr.rd (j := 2) rfl rfl dL_law_1376 dL_law_1377 dL_law_1379 rfl dL_law_1380 dL_law_1381 (by omega) hLn ?_
  refine Lpr.rd (j := 3) rfl rfl dL_law_1382 dL_law_1383 dL_law_1385 rfl dL_law_1386 dL_law_1387 (by omega) hLn ?_
  refine Lpr.rd (j := 4) rfl rfl dL_law_1388 dL_law_1389 dL_law_1391 rfl dL_law_1392 dL_law_1393 (by omega) hLn ?_
  refine Lpr.callM (d' := 200) (As := [.int (xs (i + 1)), .int (xs (i + 2)), .int (xs (i + 3)), .int (xs (i + 4))]) yoX12_chance ml_L_162 im_X12_chance se_X12_chance dL_law_1394 rfl rfl rfl (Nat.le_of_ble_eq_true rfl) (by decide) hca rfl (Nat.le_of_ble_eq_true rfl) (fun n0 h0 => chance_M (by decide) hq hw hR) ?_
  rintro v s3 ⟨rfl, fX⟩
  refine Lpr.if_icmp_eq 1515 dL_law_1397 rfl rfl ?_
  exact kk _ _ ((INV.S hI rfl rfl).X fX)
theorem lc_32 (hI : INV S s2) (hi : i + 6 ≤ Ln) (hLn : Ln ≤ 3072) (hca : ca ≤ 601024 ∧ sl ≤ 7293034) (kk : ∀ (S' : FS) (s2' : St), INV S' s2' → Lpr κ N b Ln xs gr ca sl S' s2' f 1515 (LL N b i) []) : Lpr κ N b Ln xs gr ca sl S s2 f 1402 (LL N b i) [] := by
  obtain ⟨s, ⟨T, T2⟩, ⟨c, g, th⟩, u, F, k, ⟨pa, tu⟩, rd, tk⟩ := S
  obtain ⟨hi, t, pl, o, l, hw, hD, hM, hFa, h7, ⟨i6, i7, i8, i9, i10⟩, ⟨i11, i12⟩, ⟨i13a, i13b, i13c, i13d⟩, ⟨i14a, i14b, i14c⟩, i15⟩ := id hI
  have hq : qui s2 := hM.1
  have h47 : s2.1 47 = -1 := hM.2.1
  have hR : Rm T s2 0 c := hM.2.2.1
  have hp : c.1 0 = T.1.1 0 := hR.2.1.1
  have hu := hM.2.2.2.2.2
  have hw6 : nat (T.1.1 0) < 7 := hw.1.2
  have hIn : ∀ q, q < nat (T.1.1 0) → T.1.2.1 2 q = nI (nat (T.1.2.1 2 q)) := fun q hq => by
    have h2 := (hR.1.1.2.2 q (by rw [← hR.1.1.2.1]; exact hq))
    rw [h2.2.1]; exact h2.2.2.1
  refine Lpr.aload_n dL_law_1402 rfl ?_
  refine Lpr.rd (j := 1) rfl rfl dL_law_1403 dL_law_1404 dL_law_1406 rfl dL_law_1407 dL_law_1408 (by omega) hLn ?_
  refine Lpr.rd (j := 2) rfl rfl dL_law_1409 dL_law_1410 dL_law_1412 rfl dL_law_1413 dL_law_1414 (by omega) hLn ?_
  refine Lpr.rd (j := 3) rfl rfl dL_law_1415 dL_law_1416 dL_law_1418 rfl dL_law_1419 dL_law_1420 (by omega) hLn ?_
  refine Lpr.callB (d' := 200) (As := [.int (xs (i + 1)), .int (xs (i + 2)), .int (xs (i + 3))]) yoX11_tried ml_L_163 im_X11_tried se_X11_tried dL_law_1421 rfl rfl rfl (Nat.le_of_ble_eq_true rfl) (by decide) hca rfl (Nat.le_of_ble_eq_true rfl) (fun n0 h0 => tried_F (by decide) hw hp) ?_
  rintro v S' ⟨rfl, th9, k9, rfl⟩
  refine Lpr.aload_n dL_law_1424 rfl ?_
  refine Lpr.rd (j := 1) rfl rfl dL_law_1425 dL_law_1426 dL_law_1428 rfl dL_law_1429 dL_law_1430 (by omega) hLn ?_
  refine Lpr.rd (j := 2) rfl rfl dL_law_1431 dL_law_1432 dL_law_1434 rfl dL_law_1435 dL_law_1436 (by omega) hLn ?_
  refine Lpr.rd (j := 3) rfl rfl dL_law_1437 dL_law_1438 dL_law_1440 rfl dL_law_1441 dL_law_1442 (by omega) hLn ?_
  refine Lpr.callM (d' := 200) (As := [.int (xs (i + 1)), .int (xs (i + 2)), .int (xs (i + 3))]) yoX12_tried ml_L_166 im_X12_tried se_X12_tried dL_law_1443 rfl rfl rfl (Nat.le_of_ble_eq_true rfl) (by decide) hca rfl (Nat.le_of_ble_eq_true rfl) (fun n0 h0 => tried_M (by decide) hq hw hR h47) ?_
  rintro v s3 ⟨rfl, fX⟩
  refine Lpr.if_icmp_eq 1515 dL_law_1446 rfl rfl ?_
  exact kk _ _ ((INV.S hI rfl rfl).X fX)
theorem lc_33 (hI : INV S s2) (hi : i + 6 ≤ Ln) (hLn : Ln ≤ 3072) (hca : ca ≤ 601024 ∧ sl ≤ 7293034) (kk : ∀ (S' : FS) (s2' : St), INV S' s2' → Lpr κ N b Ln xs gr ca sl S' s2' f 1515 (LL N b i) []) : Lpr κ N b Ln xs gr ca sl S s2 f 1451 (LL N b i) [] := by
  obtain ⟨s, ⟨T, T2⟩, ⟨c, g, th⟩, u, F, k, ⟨pa, tu⟩, rd, tk⟩ := S
  obtain ⟨hi, t, pl, o, l, hw, hD, hM, hFa, h7, ⟨i6, i7, i8, i9, i10⟩, ⟨i11, i12⟩, ⟨i13a, i13b, i13c, i13d⟩, ⟨i14a, i14b, i14c⟩, i15⟩ := id hI
  have hq : qui s2 := hM.1
  have h47 : s2.1 47 = -1 := hM.2.1
  have hR : Rm T s2 0 c := hM.2.2.1
  have hp : c.1 0 = T.1.1 0 := hR.2.1.1
  have hu := hM.2.2.2.2.2
  have hw6 : nat (T.1.1 0) < 7 := hw.1.2
  have hIn : ∀ q, q < nat (T.1.1 0) → T.1.2.1 2 q = nI (nat (T.1.2.1 2 q)) := fun q hq => by
    have h2 := (hR.1.1.2.2 q (by rw [← hR.1.1.2.1]; exact hq))
    rw [h2.2.1]; exact h2.2.2.1
  refine Lpr.aload_n dL_law_1451 rfl ?_
  refine Lpr.callB (d' := 200) (As := []) yoX11_undo ml_L_167 im_X11_undo se_X11_undo dL_law_1452 rfl rfl rfl (Nat.le_of_ble_eq_true rfl) (by decide) hca rfl (Nat.le_of_ble_eq_true rfl) (fun n0 h0 => undo_F (by decide) hu.1 (N := 6) (Nat.le_refl 6) (fun j hj => ⟨(hu.2.2 j hj).1.1, Nat.lt_of_lt_of_le (hu.2.2 j hj).1.2 (Nat.le_of_lt_succ hw6)⟩)) ?_
  rintro v S' ⟨rfl, rfl⟩
  refine Lpr.aload_n dL_law_1455 rfl ?_
  refine Lpr.callM (d' := 200) (As := []) yoX12_undo ml_L_170 im_X12_undo se_X12_undo dL_law_1456 rfl rfl rfl (Nat.le_of_ble_eq_true rfl) (by decide) hca rfl (Nat.le_of_ble_eq_true rfl) (fun n0 h0 => undo_M (by decide) hM) ?_
  rintro v s3 ⟨rfl, m, fD⟩
  refine Lpr.if_icmp_eq 1515 dL_law_1459 rfl rfl ?_
  exact kk _ _ (hI.D m fD h7 rfl rfl)
theorem lc_34 (hI : INV S s2) (hi : i + 6 ≤ Ln) (hLn : Ln ≤ 3072) (hca : ca ≤ 601024 ∧ sl ≤ 7293034) (kk : ∀ (S' : FS) (s2' : St), INV S' s2' → Lpr κ N b Ln xs gr ca sl S' s2' f 1515 (LL N b i) []) : Lpr κ N b Ln xs gr ca sl S s2 f 1464 (LL N b i) [] := by
  obtain ⟨s, ⟨T, T2⟩, ⟨c, g, th⟩, u, F, k, ⟨pa, tu⟩, rd, tk⟩ := S
  obtain ⟨hi, t, pl, o, l, hw, hD, hM, hFa, h7, ⟨i6, i7, i8, i9, i10⟩, ⟨i11, i12⟩, ⟨i13a, i13b, i13c, i13d⟩, ⟨i14a, i14b, i14c⟩, i15⟩ := id hI
  have hq : qui s2 := hM.1
  have h47 : s2.1 47 = -1 := hM.2.1
  have hR : Rm T s2 0 c := hM.2.2.1
  have hp : c.1 0 = T.1.1 0 := hR.2.1.1
  have hu := hM.2.2.2.2.2
  have hw6 : nat (T.1.1 0) < 7 := hw.1.2
  have hIn : ∀ q, q < nat (T.1.1 0) → T.1.2.1 2 q = nI (nat (T.1.2.1 2 q)) := fun q hq => by
    have h2 := (hR.1.1.2.2 q (by rw [← hR.1.1.2.1]; exact hq))
    rw [h2.2.1]; exact h2.2.2.1
  refine Lpr.aload_n dL_law_1464 rfl ?_
  refine Lpr.callB (d' := 200) (As := []) yoX11_keep ml_L_171 im_X11_keep se_X11_keep dL_law_1465 rfl rfl rfl (Nat.le_of_ble_eq_true rfl) (by decide) hca rfl (Nat.le_of_ble_eq_true rfl) (fun n0 h0 => keep_F (by decide)) ?_
  rintro v S' ⟨rfl, rfl⟩
  refine Lpr.aload_n dL_law_1468 rfl ?_
  refine Lpr.callM (d' := 200) (As := []) yoX12_keep ml_L_174 im_X12_keep se_X12_keep dL_law_1469 rfl rfl rfl (Nat.le_of_ble_eq_true rfl) (by decide) hca rfl (Nat.le_of_ble_eq_true rfl) (fun n0 h0 => keep_M (by decide) hM) ?_
  rintro v s3 ⟨rfl, m, fD⟩
  refine Lpr.if_icmp_eq 1515 dL_law_1472 rfl rfl ?_
  exact kk _ _ (hI.D m fD rfl rfl rfl)
theorem lc_35 (hI : INV S s2) (hi : i + 6 ≤ Ln) (hLn : Ln ≤ 3072) (hca : ca ≤ 601024 ∧ sl ≤ 7293034) (kk : ∀ (S' : FS) (s2' : St), INV S' s2' → Lpr κ N b Ln xs gr ca sl S' s2' f 1515 (LL N b i) []) : Lpr κ N b Ln xs gr ca sl S s2 f 1477 (LL N b i) [] := by
  obtain ⟨s, ⟨T, T2⟩, ⟨c, g, th⟩, u, F, k, ⟨pa, tu⟩, rd, tk⟩ := S
  obtain ⟨hi, t, pl, o, l, hw, hD, hM, hFa, h7, ⟨i6, i7, i8, i9, i10⟩, ⟨i11, i12⟩, ⟨i13a, i13b, i13c, i13d⟩, ⟨i14a, i14b, i14c⟩, i15⟩ := id hI
  have hq : qui s2 := hM.1
  have h47 : s2.1 47 = -1 := hM.2.1
  have hR : Rm T s2 0 c := hM.2.2.1
  have hp : c.1 0 = T.1.1 0 := hR.2.1.1
  have hu := hM.2.2.2.2.2
  have hw6 : nat (T.1.1 0) < 7 := hw.1.2
  have hIn : ∀ q, q < nat (T.1.1 0) → T.1.2.1 2 q = nI (nat (T.1.2.1 2 q)) := fun q hq => by
    have h2 := (hR.1.1.2.2 q (by rw [← hR.1.1.2.1]; exact hq))
    rw [h2.2.1]; exact h2.2.2.1
  refine Lpr.aload_n dL_law_1477 rfl ?_
  refine Lpr.callB (d' := 200) (As := []) yoX11_back ml_L_175 im_X11_back se_X11_back dL_law_1478 rfl rfl rfl (Nat.le_of_ble_eq_true rfl) (by decide) hca rfl (Nat.le_of_ble_eq_true rfl) (fun n0 h0 => back_F (by decide) h7) ?_
  rintro v S' ⟨rfl, rfl⟩
  refine Lpr.aload_n dL_law_1481 rfl ?_
  refine Lpr.callM (d' := 200) (As := []) yoX12_back ml_L_178 im_X12_back se_X12_back dL_law_1482 rfl rfl rfl (Nat.le_of_ble_eq_true rfl) (by decide) hca rfl (Nat.le_of_ble_eq_true rfl) (fun n0 h0 => back_M (by decide) hM) ?_
  rintro v s3 ⟨rfl, m, fD⟩
  refine Lpr.if_icmp_eq 1515 dL_law_1485 rfl rfl ?_
  exact kk _ _ (hI.D m fD h7 rfl rfl)
theorem lc_36 (hI : INV S s2) (hi : i + 6 ≤ Ln) (hLn : Ln ≤ 3072) (hca : ca ≤ 601024 ∧ sl ≤ 7293034) (kk : ∀ (S' : FS) (s2' : St), INV S' s2' → Lpr κ N b Ln xs gr ca sl S' s2' f 1515 (LL N b i) []) : Lpr κ N b Ln xs gr ca sl S s2 f 1490 (LL N b i) [] := by
  obtain ⟨s, ⟨T, T2⟩, ⟨c, g, th⟩, u, F, k, ⟨pa, tu⟩, rd, tk⟩ := S
  obtain ⟨hi, t, pl, o, l, hw, hD, hM, hFa, h7, ⟨i6, i7, i8, i9, i10⟩, ⟨i11, i12⟩, ⟨i13a, i13b, i13c, i13d⟩, ⟨i14a, i14b, i14c⟩, i15⟩ := id hI
  have hq : qui s2 := hM.1
  have h47 : s2.1 47 = -1 := hM.2.1
  have hR : Rm T s2 0 c := hM.2.2.1
  have hp : c.1 0 = T.1.1 0 := hR.2.1.1
  have hu := hM.2.2.2.2.2
  have hw6 : nat (T.1.1 0) < 7 := hw.1.2
  have hIn : ∀ q, q < nat (T.1.1 0) → T.1.2.1 2 q = nI (nat (T.1.2.1 2 q)) := fun q hq => by
    have h2 := (hR.1.1.2.2 q (by rw [← hR.1.1.2.1]; exact hq))
    rw [h2.2.1]; exact h2.2.2.1
  refine Lpr.aload_n dL_law_1490 rfl ?_
  refine Lpr.rd (j := 1) rfl rfl dL_law_1491 dL_law_1492 dL_law_1494 rfl dL_law_1495 dL_law_1496 (by omega) hLn ?_
  refine Lpr.callB (d' := 200) (As := [.int (xs (i + 1))]) yoX11_count ml_L_179 im_X11_count se_X11_count dL_law_1497 rfl rfl rfl (Nat.le_of_ble_eq_true rfl) (by decide) hca rfl (Nat.le_of_ble_eq_true rfl) (fun n0 h0 => count_F (by decide) hw hp) ?_
  rintro v S' ⟨rfl, rfl⟩
  refine Lpr.aload_n dL_law_1500 rfl ?_
  refine Lpr.rd (j := 1) rfl rfl dL_law_1501 dL_law_1502 dL_law_1504 rfl dL_law_1505 dL_law_1506 (by omega) hLn ?_
  refine Lpr.callM (d' := 200) (As := [.int (xs (i + 1))]) yoX12_count ml_L_182 im_X12_count se_X12_count dL_law_1507 rfl rfl rfl (Nat.le_of_ble_eq_true rfl) (by decide) hca rfl (Nat.le_of_ble_eq_true rfl) (fun n0 h0 => count_M (by decide) hR (hR.1.2.2.2.2.2.2.2.1.symm.trans i14c.symm) hFa.2.1 hFa.2.2.1 hu.2.1) ?_
  rintro v s3 ⟨rfl, fX⟩
  refine Lpr.if_icmp_eq 1515 dL_law_1510 rfl rfl ?_
  exact kk _ _ (hI.X fX)
theorem lc_0 (hI : INV S s2) (hi : i + 6 ≤ Ln) (hLn : Ln ≤ 3072) (hca : ca ≤ 601024 ∧ sl ≤ 7293034) (kk : ∀ (S' : FS) (s2' : St), INV S' s2' → Lpr κ N b Ln xs gr ca sl S' s2' f 1515 (LL N b i) []) : Lpr κ N b Ln xs gr ca sl S s2 f 204 (LL N b i) [] := by
  obtain ⟨s, ⟨T, T2⟩, ⟨c, g, th⟩, u, F, k, ⟨pa, tu⟩, rd, tk⟩ := S
  obtain ⟨hi, t, pl, o, l, hw, hD, hM, hFa, h7, ⟨i6, i7, i8, i9, i10⟩, ⟨i11, i12⟩, ⟨i13a, i13b, i13c, i13d⟩, ⟨i14a, i14b, i14c⟩, i15⟩ := id hI
  have hq : qui s2 := hM.1
  have h47 : s2.1 47 = -1 := hM.2.1
  have hR : Rm T s2 0 c := hM.2.2.1
  have hp : c.1 0 = T.1.1 0 := hR.2.1.1
  have hu := hM.2.2.2.2.2
  have hw6 : nat (T.1.1 0) < 7 := hw.1.2
  have hIn : ∀ q, q < nat (T.1.1 0) → T.1.2.1 2 q = nI (nat (T.1.2.1 2 q)) := fun q hq => by
    have h2 := (hR.1.1.2.2 q (by rw [← hR.1.1.2.1]; exact hq))
    rw [h2.2.1]; exact h2.2.2.1
  refine Lpr.aload_n dL_law_204 rfl ?_
  refine Lpr.rd (j := 1) rfl rfl dL_law_205 dL_law_206 dL_law_208 rfl dL_law_209 dL_law_210 (by omega) hLn ?_
  refine Lpr.rd (j := 2) rfl rfl dL_law_211 dL_law_212 dL_law_214 rfl dL_law_215 dL_law_216 (by omega) hLn ?_
  refine Lpr.rd (j := 3) rfl rfl dL_law_217 dL_law_218 dL_law_220 rfl dL_law_221 dL_law_222 (by omega) hLn ?_
  refine Lpr.rd (j := 4) rfl rfl dL_law_223 dL_law_224 dL_law_226 rfl dL_law_227 dL_law_228 (by omega) hLn ?_
  refine Lpr.rd (j := 5) rfl rfl dL_law_229 dL_law_230 dL_law_232 rfl dL_law_233 dL_law_234 (by omega) hLn ?_
  refine Lpr.callB (d' := 200) (As := [.int (xs (i + 1)), .int (xs (i + 2)), .int (xs (i + 3)), .int (xs (i + 4)), .int (xs (i + 5))]) yoX11_feed ml_L_21 im_X11_feed se_X11_feed dL_law_235 rfl rfl rfl (Nat.le_of_ble_eq_true rfl) (by decide) hca rfl (Nat.le_of_ble_eq_true rfl) (fun n0 h0 => feed_F (by decide) i6 i8) ?_
  rintro v S' ⟨rfl, s9, rfl, e1, e7, e0, -⟩
  refine Lpr.aload_n dL_law_238 rfl ?_
  refine Lpr.rd (j := 1) rfl rfl dL_law_239 dL_law_240 dL_law_242 rfl dL_law_243 dL_law_244 (by omega) hLn ?_
  refine Lpr.rd (j := 2) rfl rfl dL_law_245 dL_law_246 dL_law_248 rfl dL_law_249 dL_law_250 (by omega) hLn ?_
  refine Lpr.rd (j := 3) rfl rfl dL_law_251 dL_law_252 dL_law_254 rfl dL_law_255 dL_law_256 (by omega) hLn ?_
  refine Lpr.rd (j := 4) rfl rfl dL_law_257 dL_law_258 dL_law_260 rfl dL_law_261 dL_law_262 (by omega) hLn ?_
  refine Lpr.rd (j := 5) rfl rfl dL_law_263 dL_law_264 dL_law_266 rfl dL_law_267 dL_law_268 (by omega) hLn ?_
  refine Lpr.callM (d' := 200) (As := [.int (xs (i + 1)), .int (xs (i + 2)), .int (xs (i + 3)), .int (xs (i + 4)), .int (xs (i + 5))]) yoX12_feed ml_L_25 im_X12_feed se_X12_feed dL_law_269 rfl rfl rfl (Nat.le_of_ble_eq_true rfl) (by decide) hca rfl (Nat.le_of_ble_eq_true rfl) (fun n0 h0 => feed_M (by decide) i8 i7) ?_
  rintro v s3 ⟨rfl, g2, g1, fT⟩
  refine Lpr.if_icmp_eq 1515 dL_law_272 rfl rfl ?_
  exact kk _ _ (hI.feed i6 i8 e1 e7 e0 g2 g1 fT)
theorem lc_1 (hI : INV S s2) (hi : i + 6 ≤ Ln) (hLn : Ln ≤ 3072) (hca : ca ≤ 601024 ∧ sl ≤ 7293034) (kk : ∀ (S' : FS) (s2' : St), INV S' s2' → Lpr κ N b Ln xs gr ca sl S' s2' f 1515 (LL N b i) []) : Lpr κ N b Ln xs gr ca sl S s2 f 277 (LL N b i) [] := by
  obtain ⟨s, ⟨T, T2⟩, ⟨c, g, th⟩, u, F, k, ⟨pa, tu⟩, rd, tk⟩ := S
  obtain ⟨hi, t, pl, o, l, hw, hD, hM, hFa, h7, ⟨i6, i7, i8, i9, i10⟩, ⟨i11, i12⟩, ⟨i13a, i13b, i13c, i13d⟩, ⟨i14a, i14b, i14c⟩, i15⟩ := id hI
  have hq : qui s2 := hM.1
  have h47 : s2.1 47 = -1 := hM.2.1
  have hR : Rm T s2 0 c := hM.2.2.1
  have hp : c.1 0 = T.1.1 0 := hR.2.1.1
  have hu := hM.2.2.2.2.2
  have hw6 : nat (T.1.1 0) < 7 := hw.1.2
  have hIn : ∀ q, q < nat (T.1.1 0) → T.1.2.1 2 q = nI (nat (T.1.2.1 2 q)) := fun q hq => by
    have h2 := (hR.1.1.2.2 q (by rw [← hR.1.1.2.1]; exact hq))
    rw [h2.2.1]; exact h2.2.2.1
  have hdr0 : ∀ n, okN (drB (S00 (s2.2.1 1) n (tk.1 3) pl (tk.1 5) T2 l o)) 101 := fun n => by
    show okN 0 101
    exact ⟨rfl, by decide⟩
  have hB0 : ∀ (n0 : Nat) (h0 : Hp), GV (IB N h0) MX11_text (200, 0, 0, n0, κ) (mkF s T T2 c g th u F k pa tu rd tk) 0 [some (.ref N), some (.int (xs (i + 1))), none, none] [] _ := fun n0 h0 => text_F (by decide) i6 i8 i13a ⟨i13b, i13c, i13d⟩ i15 (fun k hk => by rw [show s.2.1 0 = s2.2.1 1 from i9]; exact (i10 k hk).1)
  refine Lpr.aload_n dL_law_277 rfl ?_
  refine Lpr.rd (j := 1) rfl rfl dL_law_278 dL_law_279 dL_law_281 rfl dL_law_282 dL_law_283 (by omega) hLn ?_
  refine Lpr.callB (d' := 200) (As := [.int (xs (i + 1))]) yoX11_text ml_L_26 im_X11_text se_X11_text dL_law_284 rfl rfl rfl (Nat.le_of_ble_eq_true rfl) (by decide) hca rfl (Nat.le_of_ble_eq_true rfl) hB0 ?_
  rintro v S' ⟨hB1, hB2⟩
  by_cases hx : xs (i + 1) < 0 ∨ nI t < xs (i + 1)
  · obtain ⟨rfl, rfl⟩ := hB1 hx
    refine Lpr.aload_n dL_law_287 rfl ?_
    refine Lpr.rd (j := 1) rfl rfl dL_law_288 dL_law_289 dL_law_291 rfl dL_law_292 dL_law_293 (by omega) hLn ?_
    refine Lpr.callM (d' := 200) (As := [.int (xs (i + 1))]) yoX12_text ml_L_30 im_X12_text se_X12_text dL_law_294 rfl rfl rfl (Nat.le_of_ble_eq_true rfl) (by decide) hca rfl (Nat.le_of_ble_eq_true rfl) (fun n0 h0 => text_M (κ := κ) (kd := tk.1 3) (vl := tk.1 5) (pl := pl) (T0 := T2) (l := l) (o := o) (by decide) i7 i8 i10 i15) ?_
    rintro v s3 ⟨hQ1, -⟩
    obtain ⟨rfl, rfl⟩ := hQ1 hx
    refine Lpr.if_icmp_eq 1515 dL_law_297 rfl rfl ?_
    exact kk _ _ (hI.X frX.z)
  · have hx0 : ¬ xs (i + 1) < 0 := fun z => hx (Or.inl z)
    have hxt : xs (i + 1) ≤ nI t := Int32.not_lt.mp fun z => hx (Or.inr z)
    obtain ⟨n, hn31, hn⟩ := nI_of hx0
    have hnt : n ≤ t := by rw [hn] at hxt; exact (nI_leI hn31 (by omega)).mp hxt
    have hT := hB2 n hn hnt
    rw [show s.2.1 0 = s2.2.1 1 from i9] at hT
    have hv := hT.1
    subst hv
    refine Lpr.aload_n dL_law_287 rfl ?_
    refine Lpr.rd (j := 1) rfl rfl dL_law_288 dL_law_289 dL_law_291 rfl dL_law_292 dL_law_293 (by omega) hLn ?_
    refine Lpr.callM (d' := 200) (As := [.int (xs (i + 1))]) yoX12_text ml_L_30 im_X12_text se_X12_text dL_law_294 rfl rfl rfl (Nat.le_of_ble_eq_true rfl) (by decide) hca rfl (Nat.le_of_ble_eq_true rfl) (fun n0 h0 => text_M (κ := κ) (kd := tk.1 3) (vl := tk.1 5) (pl := pl) (T0 := T2) (l := l) (o := o) (by decide) i7 i8 i10 i15) ?_
    rintro v s3 ⟨-, hQ2⟩
    have hU := hQ2 n hn hnt
    have hZ := hI.text ((cap_read _ _ _).trans (by show (T2.2.1.1 1, T2.2.2.1.1 1) = _; rw [show T2.2.1.1 1 = 12 from i15.1, show T2.2.2.1.1 1 = 8 from i15.2])) (drb_read _ _ _ (hdr0 n)) hT hU
    have hv := hU.1
    subst hv
    refine Lpr.if_icmp_eq 1515 dL_law_297 rfl rfl ?_
    exact kk _ _ hZ.2
theorem lc_26 (hI : INV S s2) (hi : i + 6 ≤ Ln) (hLn : Ln ≤ 3072) (hca : ca ≤ 601024 ∧ sl ≤ 7293034) (kk : ∀ (S' : FS) (s2' : St), INV S' s2' → Lpr κ N b Ln xs gr ca sl S' s2' f 1515 (LL N b i) []) : Lpr κ N b Ln xs gr ca sl S s2 f 1152 (LL N b i) [] := by
  obtain ⟨s, ⟨T, T2⟩, ⟨c, g, th⟩, u, F, k, ⟨pa, tu⟩, rd, tk⟩ := S
  obtain ⟨hi, t, pl, o, l, hw, hD, hM, hFa, h7, ⟨i6, i7, i8, i9, i10⟩, ⟨i11, i12⟩, ⟨i13a, i13b, i13c, i13d⟩, ⟨i14a, i14b, i14c⟩, i15⟩ := id hI
  have hq : qui s2 := hM.1
  have h47 : s2.1 47 = -1 := hM.2.1
  have hR : Rm T s2 0 c := hM.2.2.1
  have hp : c.1 0 = T.1.1 0 := hR.2.1.1
  have hu := hM.2.2.2.2.2
  have hw6 : nat (T.1.1 0) < 7 := hw.1.2
  have hIn : ∀ q, q < nat (T.1.1 0) → T.1.2.1 2 q = nI (nat (T.1.2.1 2 q)) := fun q hq => by
    have h2 := (hR.1.1.2.2 q (by rw [← hR.1.1.2.1]; exact hq))
    rw [h2.2.1]; exact h2.2.2.1
  by_cases h4 : xs (i + 4) = 0
  · refine Lpr.aload_n dL_law_1152 rfl ?_
    refine Lpr.rd (j := 1) rfl rfl dL_law_1153 dL_law_1154 dL_law_1156 rfl dL_law_1157 dL_law_1158 (by omega) hLn ?_
    refine Lpr.rd (j := 2) rfl rfl dL_law_1159 dL_law_1160 dL_law_1162 rfl dL_law_1163 dL_law_1164 (by omega) hLn ?_
    refine Lpr.rd (j := 3) rfl rfl dL_law_1165 dL_law_1166 dL_law_1168 rfl dL_law_1169 dL_law_1170 (by omega) hLn ?_
    refine Lpr.rd (j := 4) rfl rfl dL_law_1171 dL_law_1172 dL_law_1174 rfl dL_law_1175 dL_law_1176 (by omega) hLn ?_
    refine Lpr.if_eq 1184 dL_law_1177 rfl (fun _ => ?_) (fun z => absurd h4 z)
    refine Lpr.iconst dL_law_1184 rfl ?_
    refine Lpr.callB (d' := 200) (As := [.int (xs (i + 1)), .int (xs (i + 2)), .int (xs (i + 3)), .int 0]) yoX11_see ml_L_136 im_X11_see se_X11_see dL_law_1185 rfl rfl rfl (Nat.le_of_ble_eq_true rfl) (by decide) hca rfl (Nat.le_of_ble_eq_true rfl) (fun n0 h0 => see_F (by decide) (b := false) hw hFa.1) ?_
    rintro v S' ⟨rfl, rfl⟩
    refine Lpr.aload_n dL_law_1188 rfl ?_
    refine Lpr.rd (j := 1) rfl rfl dL_law_1189 dL_law_1190 dL_law_1192 rfl dL_law_1193 dL_law_1194 (by omega) hLn ?_
    refine Lpr.rd (j := 2) rfl rfl dL_law_1195 dL_law_1196 dL_law_1198 rfl dL_law_1199 dL_law_1200 (by omega) hLn ?_
    refine Lpr.rd (j := 3) rfl rfl dL_law_1201 dL_law_1202 dL_law_1204 rfl dL_law_1205 dL_law_1206 (by omega) hLn ?_
    refine Lpr.rd (j := 4) rfl rfl dL_law_1207 dL_law_1208 dL_law_1210 rfl dL_law_1211 dL_law_1212 (by omega) hLn ?_
    refine Lpr.if_eq 1220 dL_law_1213 rfl (fun _ => ?_) (fun z => absurd h4 z)
    refine Lpr.iconst dL_law_1220 rfl ?_
    refine Lpr.callM (d' := 200) (As := [.int (xs (i + 1)), .int (xs (i + 2)), .int (xs (i + 3)), .int 0]) yoX12_see ml_L_140 im_X12_see se_X12_see dL_law_1221 rfl rfl rfl (Nat.le_of_ble_eq_true rfl) (by decide) hca rfl (Nat.le_of_ble_eq_true rfl) (fun n0 h0 => see_M (by decide) (b := false) hR hFa) ?_
    rintro v s3 ⟨rfl, hf, fF⟩
    refine Lpr.if_icmp_eq 1515 dL_law_1224 rfl rfl ?_
    exact kk _ _ (hI.fac hf fF)
  · refine Lpr.aload_n dL_law_1152 rfl ?_
    refine Lpr.rd (j := 1) rfl rfl dL_law_1153 dL_law_1154 dL_law_1156 rfl dL_law_1157 dL_law_1158 (by omega) hLn ?_
    refine Lpr.rd (j := 2) rfl rfl dL_law_1159 dL_law_1160 dL_law_1162 rfl dL_law_1163 dL_law_1164 (by omega) hLn ?_
    refine Lpr.rd (j := 3) rfl rfl dL_law_1165 dL_law_1166 dL_law_1168 rfl dL_law_1169 dL_law_1170 (by omega) hLn ?_
    refine Lpr.rd (j := 4) rfl rfl dL_law_1171 dL_law_1172 dL_law_1174 rfl dL_law_1175 dL_law_1176 (by omega) hLn ?_
    refine Lpr.if_eq 1184 dL_law_1177 rfl (fun z => absurd z h4) (fun _ => ?_)
    refine Lpr.iconst dL_law_1180 rfl ?_
    refine Lpr.goto 1185 dL_law_1181 rfl ?_
    refine Lpr.callB (d' := 200) (As := [.int (xs (i + 1)), .int (xs (i + 2)), .int (xs (i + 3)), .int 1]) yoX11_see ml_L_136 im_X11_see se_X11_see dL_law_1185 rfl rfl rfl (Nat.le_of_ble_eq_true rfl) (by decide) hca rfl (Nat.le_of_ble_eq_true rfl) (fun n0 h0 => see_F (by decide) (b := true) hw hFa.1) ?_
    rintro v S' ⟨rfl, rfl⟩
    refine Lpr.aload_n dL_law_1188 rfl ?_
    refine Lpr.rd (j := 1) rfl rfl dL_law_1189 dL_law_1190 dL_law_1192 rfl dL_law_1193 dL_law_1194 (by omega) hLn ?_
    refine Lpr.rd (j := 2) rfl rfl dL_law_1195 dL_law_1196 dL_law_1198 rfl dL_law_1199 dL_law_1200 (by omega) hLn ?_
    refine Lpr.rd (j := 3) rfl rfl dL_law_1201 dL_law_1202 dL_law_1204 rfl dL_law_1205 dL_law_1206 (by omega) hLn ?_
    refine Lpr.rd (j := 4) rfl rfl dL_law_1207 dL_law_1208 dL_law_1210 rfl dL_law_1211 dL_law_1212 (by omega) hLn ?_
    refine Lpr.if_eq 1220 dL_law_1213 rfl (fun z => absurd z h4) (fun _ => ?_)
    refine Lpr.iconst dL_law_1216 rfl ?_
    refine Lpr.goto 1221 dL_law_1217 rfl ?_
    refine Lpr.callM (d' := 200) (As := [.int (xs (i + 1)), .int (xs (i + 2)), .int (xs (i + 3)), .int 1]) yoX12_see ml_L_140 im_X12_see se_X12_see dL_law_1221 rfl rfl rfl (Nat.le_of_ble_eq_true rfl) (by decide) hca rfl (Nat.le_of_ble_eq_true rfl) (fun n0 h0 => see_M (by decide) (b := true) hR hFa) ?_
    rintro v s3 ⟨rfl, hf, fF⟩
    refine Lpr.if_icmp_eq 1515 dL_law_1224 rfl rfl ?_
    exact kk _ _ (hI.fac hf fF)
theorem lc_29 (hI : INV S s2) (hi : i + 6 ≤ Ln) (hLn : Ln ≤ 3072) (hca : ca ≤ 601024 ∧ sl ≤ 7293034) (kk : ∀ (S' : FS) (s2' : St), INV S' s2' → Lpr κ N b Ln xs gr ca sl S' s2' f 1515 (LL N b i) []) : Lpr κ N b Ln xs gr ca sl S s2 f 1279 (LL N b i) [] := by
  obtain ⟨s, ⟨T, T2⟩, ⟨c, g, th⟩, u, F, k, ⟨pa, tu⟩, rd, tk⟩ := S
  obtain ⟨hi, t, pl, o, l, hw, hD, hM, hFa, h7, ⟨i6, i7, i8, i9, i10⟩, ⟨i11, i12⟩, ⟨i13a, i13b, i13c, i13d⟩, ⟨i14a, i14b, i14c⟩, i15⟩ := id hI
  have hq : qui s2 := hM.1
  have h47 : s2.1 47 = -1 := hM.2.1
  have hR : Rm T s2 0 c := hM.2.2.1
  have hp : c.1 0 = T.1.1 0 := hR.2.1.1
  have hu := hM.2.2.2.2.2
  have hw6 : nat (T.1.1 0) < 7 := hw.1.2
  have hIn : ∀ q, q < nat (T.1.1 0) → T.1.2.1 2 q = nI (nat (T.1.2.1 2 q)) := fun q hq => by
    have h2 := (hR.1.1.2.2 q (by rw [← hR.1.1.2.1]; exact hq))
    rw [h2.2.1]; exact h2.2.2.1
  have hl : ∀ q, q < 6 → okN (latF F (cntF (F.2.1 6) (mkn F) 0 0) (nI q) (nat (F.1 0))) 61 := fun q _ => by
    obtain ⟨L9, e, hL9, -⟩ := hFa.O.lat (nI q) (nat (F.1 0)) (Nat.le_of_lt_succ hFa.1.2)
    rw [show cntF (F.2.1 6) (mkn F) 0 0 = cnA F from rfl, e]
    have e9 : nat (nI L9) = L9 := nI_clamp (by omega)
    exact ⟨by rw [e9], by rw [e9]; omega⟩
  have hE : (if isManB (T.1.1 0) (xs (i + 1)) = true then cLenA T F (nat (xs (i + 1))) else -1) = aLengths T F (xs (i + 1)) := by
    unfold aLengths
    split
    · rename_i h
      exact mLen_eq hFa.O hw hIn (by obtain ⟨p9, e9, h9, h96⟩ := isMan_of hR.1 (by rw [← hR.1.1.2.1]; exact h); rw [e9, show nat (nI p9) = p9 from nI_clamp (by omega)]; exact h9)
    · rfl
  refine Lpr.aload_n dL_law_1279 rfl ?_
  refine Lpr.rd (j := 1) rfl rfl dL_law_1280 dL_law_1281 dL_law_1283 rfl dL_law_1284 dL_law_1285 (by omega) hLn ?_
  refine Lpr.callB (d' := 200) (As := [.int (xs (i + 1))]) yoX11_lengths ml_L_150 im_X11_lengths se_X11_lengths dL_law_1286 rfl rfl rfl (Nat.le_of_ble_eq_true rfl) (by decide) hca rfl (Nat.le_of_ble_eq_true rfl) (fun n0 h0 => lengths_F (by decide) hw hIn hFa.kn.1 hFa.kn.2.2.1 hFa.1 hl) ?_
  rintro v S' ⟨rfl, th9, k9, rfl⟩
  refine Lpr.aload_n dL_law_1289 rfl ?_
  refine Lpr.rd (j := 1) rfl rfl dL_law_1290 dL_law_1291 dL_law_1293 rfl dL_law_1294 dL_law_1295 (by omega) hLn ?_
  refine Lpr.callM (d' := 200) (As := [.int (xs (i + 1))]) yoX12_lengths ml_L_153 im_X12_lengths se_X12_lengths dL_law_1296 rfl rfl rfl (Nat.le_of_ble_eq_true rfl) (by decide) hca rfl (Nat.le_of_ble_eq_true rfl) (fun n0 h0 => lengths_M (by decide) hq hw hR hFa) ?_
  rintro v s3 ⟨rfl, fL⟩
  refine Lpr.if_icmp_eq 1515 dL_law_1299 rfl hE ?_
  exact kk _ _ ((INV.S hI rfl rfl).L fL)
theorem lc_30 (hI : INV S s2) (hi : i + 6 ≤ Ln) (hLn : Ln ≤ 3072) (hca : ca ≤ 601024 ∧ sl ≤ 7293034) (kk : ∀ (S' : FS) (s2' : St), INV S' s2' → Lpr κ N b Ln xs gr ca sl S' s2' f 1515 (LL N b i) []) : Lpr κ N b Ln xs gr ca sl S s2 f 1304 (LL N b i) [] := by
  obtain ⟨s, ⟨T, T2⟩, ⟨c, g, th⟩, u, F, k, ⟨pa, tu⟩, rd, tk⟩ := S
  obtain ⟨hi, t, pl, o, l, hw, hD, hM, hFa, h7, ⟨i6, i7, i8, i9, i10⟩, ⟨i11, i12⟩, ⟨i13a, i13b, i13c, i13d⟩, ⟨i14a, i14b, i14c⟩, i15⟩ := id hI
  have hq : qui s2 := hM.1
  have h47 : s2.1 47 = -1 := hM.2.1
  have hR : Rm T s2 0 c := hM.2.2.1
  have hp : c.1 0 = T.1.1 0 := hR.2.1.1
  have hu := hM.2.2.2.2.2
  have hw6 : nat (T.1.1 0) < 7 := hw.1.2
  have hIn : ∀ q, q < nat (T.1.1 0) → T.1.2.1 2 q = nI (nat (T.1.2.1 2 q)) := fun q hq => by
    have h2 := (hR.1.1.2.2 q (by rw [← hR.1.1.2.1]; exact hq))
    rw [h2.2.1]; exact h2.2.2.1
  have hl : ∀ q, q < 6 → okN (latF F (cntF (F.2.1 6) (mkn F) 0 0) (nI q) (nat (F.1 0))) 61 := fun q _ => by
    obtain ⟨L9, e, hL9, -⟩ := hFa.O.lat (nI q) (nat (F.1 0)) (Nat.le_of_lt_succ hFa.1.2)
    rw [show cntF (F.2.1 6) (mkn F) 0 0 = cnA F from rfl, e]
    have e9 : nat (nI L9) = L9 := nI_clamp (by omega)
    exact ⟨by rw [e9], by rw [e9]; omega⟩
  have hE : (if isManB (T.1.1 0) (xs (i + 1)) = true ∧ (xs (i + 2) = 0 ∨ xs (i + 2) = 1) then cAsk T F (nat (xs (i + 1))) (xs (i + 2)) else -1) = aAsk T F (xs (i + 1)) (xs (i + 2)) := by
    unfold aAsk
    by_cases h : isManB (T.1.1 0) (xs (i + 1)) = true ∧ (xs (i + 2) = 0 ∨ xs (i + 2) = 1)
    · rw [if_pos h, if_pos h]
      exact ask_eq hFa.O hw hIn (by obtain ⟨p9, e9, h9, h96⟩ := isMan_of hR.1 (by rw [← hR.1.1.2.1]; exact h.1); rw [e9, show nat (nI p9) = p9 from nI_clamp (by omega)]; exact h9) _
    · rw [if_neg h, if_neg h]
  refine Lpr.aload_n dL_law_1304 rfl ?_
  refine Lpr.rd (j := 1) rfl rfl dL_law_1305 dL_law_1306 dL_law_1308 rfl dL_law_1309 dL_law_1310 (by omega) hLn ?_
  refine Lpr.rd (j := 2) rfl rfl dL_law_1311 dL_law_1312 dL_law_1314 rfl dL_law_1315 dL_law_1316 (by omega) hLn ?_
  refine Lpr.callB (d' := 200) (As := [.int (xs (i + 1)), .int (xs (i + 2))]) yoX11_ask ml_L_154 im_X11_ask se_X11_ask dL_law_1317 rfl rfl rfl (Nat.le_of_ble_eq_true rfl) (by decide) hca rfl (Nat.le_of_ble_eq_true rfl) (fun n0 h0 => ask_F (by decide) hw hIn hFa.kn.1 hFa.kn.2.2.1 hFa.1 hl) ?_
  rintro v S' ⟨rfl, s9, th9, k9, rfl, ⟨w1, w2, w3⟩⟩
  refine Lpr.aload_n dL_law_1320 rfl ?_
  refine Lpr.rd (j := 1) rfl rfl dL_law_1321 dL_law_1322 dL_law_1324 rfl dL_law_1325 dL_law_1326 (by omega) hLn ?_
  refine Lpr.rd (j := 2) rfl rfl dL_law_1327 dL_law_1328 dL_law_1330 rfl dL_law_1331 dL_law_1332 (by omega) hLn ?_
  refine Lpr.callM (d' := 200) (As := [.int (xs (i + 1)), .int (xs (i + 2))]) yoX12_ask ml_L_157 im_X12_ask se_X12_ask dL_law_1333 rfl rfl rfl (Nat.le_of_ble_eq_true rfl) (by decide) hca rfl (Nat.le_of_ble_eq_true rfl) (fun n0 h0 => ask_M (by decide) hq hw hR hFa) ?_
  rintro v s3 ⟨rfl, fL⟩
  refine Lpr.if_icmp_eq 1515 dL_law_1336 rfl hE ?_
  exact kk _ _ ((INV.S hI w1 w2).L fL)
end Cases
