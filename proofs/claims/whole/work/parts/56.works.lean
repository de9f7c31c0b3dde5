/-! The model: an E is worked out -/
theorem nI_pred2 (n : Nat) : nI (n + 2) - 2 = nI n := by
  rw [← nI_add n 2, show nI 2 = 2 by decide]
  exact Int32.add_sub_cancel _ _
theorem nI_pred1 (n : Nat) : nI (n + 2) - 1 = nI (n + 1) := nI_pred (n + 1)
def inR (v : Int64) : Bool := decide (¬ 1000000000000 < v) && decide (¬ v < -1000000000000)
/-- what else stays as it is while an E is worked out -/
def scW (s s' : St) : Prop := (∀ j, j ≠ 35 → s'.1 j = s.1 j) ∧ s'.2.1 = s.2.1 ∧ s'.2.2.1 33 = s.2.2.1 33
theorem scW.rf {s : St} : scW s s := ⟨fun _ _ => rfl, rfl, rfl⟩
theorem scW.tr {s1 s2 s3 : St} (h : scW s1 s2) (k : scW s2 s3) : scW s1 s3 := ⟨fun j hj => (k.1 j hj).trans (h.1 j hj), k.2.1.trans h.2.1, k.2.2.trans h.2.2⟩
theorem scW.p {s : St} {x : Int32} : scW s (mI s 35 x) := ⟨fun j hj => upd_ne hj, rfl, rfl⟩
theorem scW.w {s : St} {i : Nat} {x : Int64} : scW s (mJ s 34 i x) := ⟨fun _ _ => rfl, rfl, rfl⟩
theorem absL_m (x : Int64) : (if 0 < x then x else -x) = absL x := by
  unfold absL
  by_cases h : 0 < x
  · rw [if_pos h, if_pos (Int64.le_of_lt h)]
  · rw [if_neg h]
    by_cases h2 : 0 ≤ x
    · rw [if_pos h2]
      have : x = 0 := Int64.le_antisymm (Int64.not_lt.mp h) h2
      rw [this]; rfl
    · rw [if_neg h2]
theorem absL_0 (x : Int64) : absL x = 0 ↔ x = 0 := by
  constructor
  · intro h
    unfold absL at h
    split at h
    · exact h
    · by_cases q : x = 0
      · exact q
      · exact absurd h (neg0L q)
  · intro h
    rw [h]; rfl
def sgV (k : Int32) : Int32 := if k = 18 then 262 else if k = 19 then 261 else if k = 20 then 260 else if k = 33 then 60 else if k = 34 then 256 else if k = 35 then 61 else if k = 36 then 257 else if k = 37 then 258 else if k = 38 then 62 else if k = 39 then 43 else if k = 40 then 45 else if k = 41 then 42 else 47

set_option maxRecDepth 100000 in
set_option maxHeartbeats 1000000 in
theorem worksTail_M {d n0 a : Nat} {κ : Kd} {h0 : Hp} (hd : 1 ≤ d) {s : St} {l : Nat} {v : Int64} {x1 x2 x3 x4 x5 : Option Value} (hl : l + 1 ≤ 64) (hm : s.1 35 = nI (l + 1)) : MV MX12_works (d, 0, 0, n0, κ) a h0 s 407 [some (.ref a), x1, x2, x3, x4, x5, some (.long v), none] [] (fun w s' => w = some (.int (bI (inR v))) ∧ s' = mJ s 34 l v) := by
  refine MV.aload_n dX12_works_407 rfl ?_
  refine MV.getf 34 fl_X12_72 dX12_works_408 (by decide) rfl ?_
  refine MV.aload_n dX12_works_411 rfl ?_
  refine MV.getf 35 fl_X12_317 dX12_works_412 (by decide) rfl ?_
  refine MV.iconst (v := 1) dX12_works_415 (by decide) ?_
  refine MV.isub dX12_works_416 ?_
  refine MV.lload dX12_works_417 rfl ?_
  refine MV.jst C12_in34 dX12_works_419 (by rw [hm]; exact nI_pred _) (by omega) (by decide) ?_
  refine MV.lload dX12_works_420 rfl ?_
  refine MV.ldc2 kc_X12_330 dX12_works_422 ?_
  refine MV.lcmp dX12_works_425 ?_
  refine MV.if_gt 442 dX12_works_426 (by decide) (fun c426 => ?_) (fun c426 => ?_)
  · skip
    refine MV.iconst (v := 0) dX12_works_442 (by decide) ?_
    refine MV.zret .boolean dX12_works_443 rfl (rfl) ?_
    exact ⟨by simp_all [-Int64.not_lt, -Int64.not_le, inR, bI, lg_cmp_lt, lg_cmp_gt, lg_cmp_le, lg_cmp_ge, lg_cmp_eq], rfl⟩
  · skip
    refine MV.lload dX12_works_429 rfl ?_
    refine MV.ldc2 kc_X12_332 dX12_works_431 ?_
    refine MV.lcmp dX12_works_434 ?_
    refine MV.if_lt 442 dX12_works_435 (by decide) (fun c435 => ?_) (fun c435 => ?_)
    · skip
      refine MV.iconst (v := 0) dX12_works_442 (by decide) ?_
      refine MV.zret .boolean dX12_works_443 rfl (rfl) ?_
      exact ⟨by simp_all [-Int64.not_lt, -Int64.not_le, inR, bI, lg_cmp_lt, lg_cmp_gt, lg_cmp_le, lg_cmp_ge, lg_cmp_eq], rfl⟩
    · skip
      refine MV.iconst (v := 1) dX12_works_438 (by decide) ?_
      refine MV.goto 443 dX12_works_439 (by decide) ?_
      refine MV.zret .boolean dX12_works_443 rfl (rfl) ?_
      exact ⟨by simp_all [-Int64.not_lt, -Int64.not_le, inR, bI, lg_cmp_lt, lg_cmp_gt, lg_cmp_le, lg_cmp_ge, lg_cmp_eq], rfl⟩
set_option maxRecDepth 100000 in
set_option maxHeartbeats 2000000 in
theorem works_lt_M {d n0 a : Nat} {κ : Kd} {h0 : Hp} (hd : 2 ≤ d) {s : St} {l : Nat} {x y : Int64} (hl : l + 2 ≤ 64) (hm : s.1 35 = nI (l + 2)) (hx : s.2.2.1 34 l = x) (hy : s.2.2.1 34 (l + 1) = y) : MV MX12_works (d, 0, 0, n0, κ) a h0 s 0 [some (.ref a), some (.int (60)), none, none, none, none, none, none] [] (fun w s' => w = some (.int (bI (inR (joinL 33 x y)))) ∧ scW s s' ∧ (inR (joinL 33 x y) = true → s'.1 35 = nI (l + 1) ∧ s'.2.2.1 34 = vp_updL (s.2.2.1 34) l (joinL 33 x y))) := by
  refine MV.aload_n dX12_works_0 rfl ?_
  refine MV.getf 34 fl_X12_72 dX12_works_1 (by decide) rfl ?_
  refine MV.aload_n dX12_works_4 rfl ?_
  refine MV.getf 35 fl_X12_317 dX12_works_5 (by decide) rfl ?_
  refine MV.iconst (v := 1) dX12_works_8 (by decide) ?_
  refine MV.isub dX12_works_9 ?_
  refine MV.jld C12_in34 dX12_works_10 (by rw [hm]; exact nI_pred1 _) (by omega) (by decide) ?_
  rw [hy]
  refine MV.lstore_n dX12_works_11 (by decide) rfl ?_
  refine MV.iload_n dX12_works_12 rfl ?_
  refine MV.sipush (v := 260) dX12_works_13 (by decide) ?_
  refine MV.icmp_ne 46 dX12_works_16 (by decide) (fun _ => ?_) (fun z => absurd z (by decide))
  refine MV.aload_n dX12_works_46 rfl ?_
  refine MV.getf 34 fl_X12_72 dX12_works_47 (by decide) rfl ?_
  refine MV.aload_n dX12_works_50 rfl ?_
  refine MV.getf 35 fl_X12_317 dX12_works_51 (by decide) rfl ?_
  refine MV.iconst (v := 2) dX12_works_54 (by decide) ?_
  refine MV.isub dX12_works_55 ?_
  refine MV.jld C12_in34 dX12_works_56 (by rw [hm]; exact nI_pred2 _) (by omega) (by decide) ?_
  rw [hx]
  refine MV.lstore dX12_works_57 (by decide) rfl ?_
  refine MV.aload_n dX12_works_59 rfl ?_
  refine MV.dup dX12_works_60 rfl ?_
  refine MV.getf 35 fl_X12_317 dX12_works_61 (by decide) rfl ?_
  refine MV.iconst (v := 1) dX12_works_64 (by decide) ?_
  refine MV.isub dX12_works_65 ?_
  rw [hm, nI_pred1]
  refine MV.putf 35 fl_X12_317 dX12_works_66 (by decide) rfl (rfl) (rfl) C12_s35 ?_
  refine MV.iload_n dX12_works_69 rfl ?_
  refine MV.lsw (off := 168) 238 dX12_works_70 (by decide) (by decide) (by decide) ?_
  refine MV.lload dX12_works_238 rfl ?_
  refine MV.lload_n dX12_works_240 rfl ?_
  refine MV.lcmp dX12_works_241 ?_
  refine MV.if_ge 249 dX12_works_242 (by decide) (fun c242 => ?_) (fun c242 => ?_)
  · skip
    refine MV.iconst (v := 0) dX12_works_249 (by decide) ?_
    refine MV.cS1 yoX12_is ml_X12_320 st_X12_is dX12_works_250 (Nat.le_of_ble_eq_true rfl) (by omega) rfl (Nat.le_of_ble_eq_true rfl) (fun h H => mIs_V (b := false) (by omega)) ?_
    refine MV.lstore dX12_works_253 (by decide) rfl ?_
    refine MV.goto 407 dX12_works_255 (by decide) ?_
    have hj : joinL 33 x y = iL false := by
      first | (simp_all [joinL, soB, iL, lg_cmp_lt, lg_cmp_gt, lg_cmp_le, lg_cmp_ge, lg_cmp_eq]; done) | (simp_all [-Int64.not_lt, -Int64.not_le, joinL, soB, iL, lg_cmp_lt, lg_cmp_gt, lg_cmp_le, lg_cmp_ge, lg_cmp_eq]; done)
    refine MV.post (fun w s' q => ?_) (worksTail_M (l := l) (v := iL false) (by omega) (by omega) rfl)
    obtain ⟨rfl, rfl⟩ := q
    rw [hj]
    exact ⟨rfl, scW.p.tr scW.w, fun _ => ⟨rfl, rfl⟩⟩
  · skip
    refine MV.iconst (v := 1) dX12_works_245 (by decide) ?_
    refine MV.goto 250 dX12_works_246 (by decide) ?_
    refine MV.cS1 yoX12_is ml_X12_320 st_X12_is dX12_works_250 (Nat.le_of_ble_eq_true rfl) (by omega) rfl (Nat.le_of_ble_eq_true rfl) (fun h H => mIs_V (b := true) (by omega)) ?_
    refine MV.lstore dX12_works_253 (by decide) rfl ?_
    refine MV.goto 407 dX12_works_255 (by decide) ?_
    have hj : joinL 33 x y = iL true := by
      first | (simp_all [joinL, soB, iL, lg_cmp_lt, lg_cmp_gt, lg_cmp_le, lg_cmp_ge, lg_cmp_eq]; done) | (simp_all [-Int64.not_lt, -Int64.not_le, joinL, soB, iL, lg_cmp_lt, lg_cmp_gt, lg_cmp_le, lg_cmp_ge, lg_cmp_eq]; done)
    refine MV.post (fun w s' q => ?_) (worksTail_M (l := l) (v := iL true) (by omega) (by omega) rfl)
    obtain ⟨rfl, rfl⟩ := q
    rw [hj]
    exact ⟨rfl, scW.p.tr scW.w, fun _ => ⟨rfl, rfl⟩⟩
set_option maxRecDepth 100000 in
set_option maxHeartbeats 2000000 in
theorem works_gt_M {d n0 a : Nat} {κ : Kd} {h0 : Hp} (hd : 2 ≤ d) {s : St} {l : Nat} {x y : Int64} (hl : l + 2 ≤ 64) (hm : s.1 35 = nI (l + 2)) (hx : s.2.2.1 34 l = x) (hy : s.2.2.1 34 (l + 1) = y) : MV MX12_works (d, 0, 0, n0, κ) a h0 s 0 [some (.ref a), some (.int (62)), none, none, none, none, none, none] [] (fun w s' => w = some (.int (bI (inR (joinL 38 x y)))) ∧ scW s s' ∧ (inR (joinL 38 x y) = true → s'.1 35 = nI (l + 1) ∧ s'.2.2.1 34 = vp_updL (s.2.2.1 34) l (joinL 38 x y))) := by
  refine MV.aload_n dX12_works_0 rfl ?_
  refine MV.getf 34 fl_X12_72 dX12_works_1 (by decide) rfl ?_
  refine MV.aload_n dX12_works_4 rfl ?_
  refine MV.getf 35 fl_X12_317 dX12_works_5 (by decide) rfl ?_
  refine MV.iconst (v := 1) dX12_works_8 (by decide) ?_
  refine MV.isub dX12_works_9 ?_
  refine MV.jld C12_in34 dX12_works_10 (by rw [hm]; exact nI_pred1 _) (by omega) (by decide) ?_
  rw [hy]
  refine MV.lstore_n dX12_works_11 (by decide) rfl ?_
  refine MV.iload_n dX12_works_12 rfl ?_
  refine MV.sipush (v := 260) dX12_works_13 (by decide) ?_
  refine MV.icmp_ne 46 dX12_works_16 (by decide) (fun _ => ?_) (fun z => absurd z (by decide))
  refine MV.aload_n dX12_works_46 rfl ?_
  refine MV.getf 34 fl_X12_72 dX12_works_47 (by decide) rfl ?_
  refine MV.aload_n dX12_works_50 rfl ?_
  refine MV.getf 35 fl_X12_317 dX12_works_51 (by decide) rfl ?_
  refine MV.iconst (v := 2) dX12_works_54 (by decide) ?_
  refine MV.isub dX12_works_55 ?_
  refine MV.jld C12_in34 dX12_works_56 (by rw [hm]; exact nI_pred2 _) (by omega) (by decide) ?_
  rw [hx]
  refine MV.lstore dX12_works_57 (by decide) rfl ?_
  refine MV.aload_n dX12_works_59 rfl ?_
  refine MV.dup dX12_works_60 rfl ?_
  refine MV.getf 35 fl_X12_317 dX12_works_61 (by decide) rfl ?_
  refine MV.iconst (v := 1) dX12_works_64 (by decide) ?_
  refine MV.isub dX12_works_65 ?_
  rw [hm, nI_pred1]
  refine MV.putf 35 fl_X12_317 dX12_works_66 (by decide) rfl (rfl) (rfl) C12_s35 ?_
  refine MV.iload_n dX12_works_69 rfl ?_
  refine MV.lsw (off := 188) 258 dX12_works_70 (by decide) (by decide) (by decide) ?_
  refine MV.lload dX12_works_258 rfl ?_
  refine MV.lload_n dX12_works_260 rfl ?_
  refine MV.lcmp dX12_works_261 ?_
  refine MV.if_le 269 dX12_works_262 (by decide) (fun c262 => ?_) (fun c262 => ?_)
  · skip
    refine MV.iconst (v := 0) dX12_works_269 (by decide) ?_
    refine MV.cS1 yoX12_is ml_X12_320 st_X12_is dX12_works_270 (Nat.le_of_ble_eq_true rfl) (by omega) rfl (Nat.le_of_ble_eq_true rfl) (fun h H => mIs_V (b := false) (by omega)) ?_
    refine MV.lstore dX12_works_273 (by decide) rfl ?_
    refine MV.goto 407 dX12_works_275 (by decide) ?_
    have hj : joinL 38 x y = iL false := by
      first | (simp_all [joinL, soB, iL, lg_cmp_lt, lg_cmp_gt, lg_cmp_le, lg_cmp_ge, lg_cmp_eq]; done) | (simp_all [-Int64.not_lt, -Int64.not_le, joinL, soB, iL, lg_cmp_lt, lg_cmp_gt, lg_cmp_le, lg_cmp_ge, lg_cmp_eq]; done)
    refine MV.post (fun w s' q => ?_) (worksTail_M (l := l) (v := iL false) (by omega) (by omega) rfl)
    obtain ⟨rfl, rfl⟩ := q
    rw [hj]
    exact ⟨rfl, scW.p.tr scW.w, fun _ => ⟨rfl, rfl⟩⟩
  · skip
    refine MV.iconst (v := 1) dX12_works_265 (by decide) ?_
    refine MV.goto 270 dX12_works_266 (by decide) ?_
    refine MV.cS1 yoX12_is ml_X12_320 st_X12_is dX12_works_270 (Nat.le_of_ble_eq_true rfl) (by omega) rfl (Nat.le_of_ble_eq_true rfl) (fun h H => mIs_V (b := true) (by omega)) ?_
    refine MV.lstore dX12_works_273 (by decide) rfl ?_
    refine MV.goto 407 dX12_works_275 (by decide) ?_
    have hj : joinL 38 x y = iL true := by
      first | (simp_all [joinL, soB, iL, lg_cmp_lt, lg_cmp_gt, lg_cmp_le, lg_cmp_ge, lg_cmp_eq]; done) | (simp_all [-Int64.not_lt, -Int64.not_le, joinL, soB, iL, lg_cmp_lt, lg_cmp_gt, lg_cmp_le, lg_cmp_ge, lg_cmp_eq]; done)
    refine MV.post (fun w s' q => ?_) (worksTail_M (l := l) (v := iL true) (by omega) (by omega) rfl)
    obtain ⟨rfl, rfl⟩ := q
    rw [hj]
    exact ⟨rfl, scW.p.tr scW.w, fun _ => ⟨rfl, rfl⟩⟩
set_option maxRecDepth 100000 in
set_option maxHeartbeats 2000000 in
theorem works_eq_M {d n0 a : Nat} {κ : Kd} {h0 : Hp} (hd : 2 ≤ d) {s : St} {l : Nat} {x y : Int64} (hl : l + 2 ≤ 64) (hm : s.1 35 = nI (l + 2)) (hx : s.2.2.1 34 l = x) (hy : s.2.2.1 34 (l + 1) = y) : MV MX12_works (d, 0, 0, n0, κ) a h0 s 0 [some (.ref a), some (.int (61)), none, none, none, none, none, none] [] (fun w s' => w = some (.int (bI (inR (joinL 35 x y)))) ∧ scW s s' ∧ (inR (joinL 35 x y) = true → s'.1 35 = nI (l + 1) ∧ s'.2.2.1 34 = vp_updL (s.2.2.1 34) l (joinL 35 x y))) := by
  refine MV.aload_n dX12_works_0 rfl ?_
  refine MV.getf 34 fl_X12_72 dX12_works_1 (by decide) rfl ?_
  refine MV.aload_n dX12_works_4 rfl ?_
  refine MV.getf 35 fl_X12_317 dX12_works_5 (by decide) rfl ?_
  refine MV.iconst (v := 1) dX12_works_8 (by decide) ?_
  refine MV.isub dX12_works_9 ?_
  refine MV.jld C12_in34 dX12_works_10 (by rw [hm]; exact nI_pred1 _) (by omega) (by decide) ?_
  rw [hy]
  refine MV.lstore_n dX12_works_11 (by decide) rfl ?_
  refine MV.iload_n dX12_works_12 rfl ?_
  refine MV.sipush (v := 260) dX12_works_13 (by decide) ?_
  refine MV.icmp_ne 46 dX12_works_16 (by decide) (fun _ => ?_) (fun z => absurd z (by decide))
  refine MV.aload_n dX12_works_46 rfl ?_
  refine MV.getf 34 fl_X12_72 dX12_works_47 (by decide) rfl ?_
  refine MV.aload_n dX12_works_50 rfl ?_
  refine MV.getf 35 fl_X12_317 dX12_works_51 (by decide) rfl ?_
  refine MV.iconst (v := 2) dX12_works_54 (by decide) ?_
  refine MV.isub dX12_works_55 ?_
  refine MV.jld C12_in34 dX12_works_56 (by rw [hm]; exact nI_pred2 _) (by omega) (by decide) ?_
  rw [hx]
  refine MV.lstore dX12_works_57 (by decide) rfl ?_
  refine MV.aload_n dX12_works_59 rfl ?_
  refine MV.dup dX12_works_60 rfl ?_
  refine MV.getf 35 fl_X12_317 dX12_works_61 (by decide) rfl ?_
  refine MV.iconst (v := 1) dX12_works_64 (by decide) ?_
  refine MV.isub dX12_works_65 ?_
  rw [hm, nI_pred1]
  refine MV.putf 35 fl_X12_317 dX12_works_66 (by decide) rfl (rfl) (rfl) C12_s35 ?_
  refine MV.iload_n dX12_works_69 rfl ?_
  refine MV.lsw (off := 208) 278 dX12_works_70 (by decide) (by decide) (by decide) ?_
  refine MV.lload dX12_works_278 rfl ?_
  refine MV.lload_n dX12_works_280 rfl ?_
  refine MV.lcmp dX12_works_281 ?_
  refine MV.if_ne 289 dX12_works_282 (by decide) (fun c282 => ?_) (fun c282 => ?_)
  · skip
    refine MV.iconst (v := 0) dX12_works_289 (by decide) ?_
    refine MV.cS1 yoX12_is ml_X12_320 st_X12_is dX12_works_290 (Nat.le_of_ble_eq_true rfl) (by omega) rfl (Nat.le_of_ble_eq_true rfl) (fun h H => mIs_V (b := false) (by omega)) ?_
    refine MV.lstore dX12_works_293 (by decide) rfl ?_
    refine MV.goto 407 dX12_works_295 (by decide) ?_
    have hj : joinL 35 x y = iL false := by
      first | (simp_all [joinL, soB, iL, lg_cmp_lt, lg_cmp_gt, lg_cmp_le, lg_cmp_ge, lg_cmp_eq]; done) | (simp_all [-Int64.not_lt, -Int64.not_le, joinL, soB, iL, lg_cmp_lt, lg_cmp_gt, lg_cmp_le, lg_cmp_ge, lg_cmp_eq]; done)
    refine MV.post (fun w s' q => ?_) (worksTail_M (l := l) (v := iL false) (by omega) (by omega) rfl)
    obtain ⟨rfl, rfl⟩ := q
    rw [hj]
    exact ⟨rfl, scW.p.tr scW.w, fun _ => ⟨rfl, rfl⟩⟩
  · skip
    refine MV.iconst (v := 1) dX12_works_285 (by decide) ?_
    refine MV.goto 290 dX12_works_286 (by decide) ?_
    refine MV.cS1 yoX12_is ml_X12_320 st_X12_is dX12_works_290 (Nat.le_of_ble_eq_true rfl) (by omega) rfl (Nat.le_of_ble_eq_true rfl) (fun h H => mIs_V (b := true) (by omega)) ?_
    refine MV.lstore dX12_works_293 (by decide) rfl ?_
    refine MV.goto 407 dX12_works_295 (by decide) ?_
    have hj : joinL 35 x y = iL true := by
      first | (simp_all [joinL, soB, iL, lg_cmp_lt, lg_cmp_gt, lg_cmp_le, lg_cmp_ge, lg_cmp_eq]; done) | (simp_all [-Int64.not_lt, -Int64.not_le, joinL, soB, iL, lg_cmp_lt, lg_cmp_gt, lg_cmp_le, lg_cmp_ge, lg_cmp_eq]; done)
    refine MV.post (fun w s' q => ?_) (worksTail_M (l := l) (v := iL true) (by omega) (by omega) rfl)
    obtain ⟨rfl, rfl⟩ := q
    rw [hj]
    exact ⟨rfl, scW.p.tr scW.w, fun _ => ⟨rfl, rfl⟩⟩
set_option maxRecDepth 100000 in
set_option maxHeartbeats 2000000 in
theorem works_le_M {d n0 a : Nat} {κ : Kd} {h0 : Hp} (hd : 2 ≤ d) {s : St} {l : Nat} {x y : Int64} (hl : l + 2 ≤ 64) (hm : s.1 35 = nI (l + 2)) (hx : s.2.2.1 34 l = x) (hy : s.2.2.1 34 (l + 1) = y) : MV MX12_works (d, 0, 0, n0, κ) a h0 s 0 [some (.ref a), some (.int (256)), none, none, none, none, none, none] [] (fun w s' => w = some (.int (bI (inR (joinL 34 x y)))) ∧ scW s s' ∧ (inR (joinL 34 x y) = true → s'.1 35 = nI (l + 1) ∧ s'.2.2.1 34 = vp_updL (s.2.2.1 34) l (joinL 34 x y))) := by
  refine MV.aload_n dX12_works_0 rfl ?_
  refine MV.getf 34 fl_X12_72 dX12_works_1 (by decide) rfl ?_
  refine MV.aload_n dX12_works_4 rfl ?_
  refine MV.getf 35 fl_X12_317 dX12_works_5 (by decide) rfl ?_
  refine MV.iconst (v := 1) dX12_works_8 (by decide) ?_
  refine MV.isub dX12_works_9 ?_
  refine MV.jld C12_in34 dX12_works_10 (by rw [hm]; exact nI_pred1 _) (by omega) (by decide) ?_
  rw [hy]
  refine MV.lstore_n dX12_works_11 (by decide) rfl ?_
  refine MV.iload_n dX12_works_12 rfl ?_
  refine MV.sipush (v := 260) dX12_works_13 (by decide) ?_
  refine MV.icmp_ne 46 dX12_works_16 (by decide) (fun _ => ?_) (fun z => absurd z (by decide))
  refine MV.aload_n dX12_works_46 rfl ?_
  refine MV.getf 34 fl_X12_72 dX12_works_47 (by decide) rfl ?_
  refine MV.aload_n dX12_works_50 rfl ?_
  refine MV.getf 35 fl_X12_317 dX12_works_51 (by decide) rfl ?_
  refine MV.iconst (v := 2) dX12_works_54 (by decide) ?_
  refine MV.isub dX12_works_55 ?_
  refine MV.jld C12_in34 dX12_works_56 (by rw [hm]; exact nI_pred2 _) (by omega) (by decide) ?_
  rw [hx]
  refine MV.lstore dX12_works_57 (by decide) rfl ?_
  refine MV.aload_n dX12_works_59 rfl ?_
  refine MV.dup dX12_works_60 rfl ?_
  refine MV.getf 35 fl_X12_317 dX12_works_61 (by decide) rfl ?_
  refine MV.iconst (v := 1) dX12_works_64 (by decide) ?_
  refine MV.isub dX12_works_65 ?_
  rw [hm, nI_pred1]
  refine MV.putf 35 fl_X12_317 dX12_works_66 (by decide) rfl (rfl) (rfl) C12_s35 ?_
  refine MV.iload_n dX12_works_69 rfl ?_
  refine MV.lsw (off := 228) 298 dX12_works_70 (by decide) (by decide) (by decide) ?_
  refine MV.lload dX12_works_298 rfl ?_
  refine MV.lload_n dX12_works_300 rfl ?_
  refine MV.lcmp dX12_works_301 ?_
  refine MV.if_gt 309 dX12_works_302 (by decide) (fun c302 => ?_) (fun c302 => ?_)
  · skip
    refine MV.iconst (v := 0) dX12_works_309 (by decide) ?_
    refine MV.cS1 yoX12_is ml_X12_320 st_X12_is dX12_works_310 (Nat.le_of_ble_eq_true rfl) (by omega) rfl (Nat.le_of_ble_eq_true rfl) (fun h H => mIs_V (b := false) (by omega)) ?_
    refine MV.lstore dX12_works_313 (by decide) rfl ?_
    refine MV.goto 407 dX12_works_315 (by decide) ?_
    have hj : joinL 34 x y = iL false := by
      first | (simp_all [joinL, soB, iL, lg_cmp_lt, lg_cmp_gt, lg_cmp_le, lg_cmp_ge, lg_cmp_eq]; done) | (simp_all [-Int64.not_lt, -Int64.not_le, joinL, soB, iL, lg_cmp_lt, lg_cmp_gt, lg_cmp_le, lg_cmp_ge, lg_cmp_eq]; done)
    refine MV.post (fun w s' q => ?_) (worksTail_M (l := l) (v := iL false) (by omega) (by omega) rfl)
    obtain ⟨rfl, rfl⟩ := q
    rw [hj]
    exact ⟨rfl, scW.p.tr scW.w, fun _ => ⟨rfl, rfl⟩⟩
  · skip
    refine MV.iconst (v := 1) dX12_works_305 (by decide) ?_
    refine MV.goto 310 dX12_works_306 (by decide) ?_
    refine MV.cS1 yoX12_is ml_X12_320 st_X12_is dX12_works_310 (Nat.le_of_ble_eq_true rfl) (by omega) rfl (Nat.le_of_ble_eq_true rfl) (fun h H => mIs_V (b := true) (by omega)) ?_
    refine MV.lstore dX12_works_313 (by decide) rfl ?_
    refine MV.goto 407 dX12_works_315 (by decide) ?_
    have hj : joinL 34 x y = iL true := by
      first | (simp_all [joinL, soB, iL, lg_cmp_lt, lg_cmp_gt, lg_cmp_le, lg_cmp_ge, lg_cmp_eq]; done) | (simp_all [-Int64.not_lt, -Int64.not_le, joinL, soB, iL, lg_cmp_lt, lg_cmp_gt, lg_cmp_le, lg_cmp_ge, lg_cmp_eq]; done)
    refine MV.post (fun w s' q => ?_) (worksTail_M (l := l) (v := iL true) (by omega) (by omega) rfl)
    obtain ⟨rfl, rfl⟩ := q
    rw [hj]
    exact ⟨rfl, scW.p.tr scW.w, fun _ => ⟨rfl, rfl⟩⟩
set_option maxRecDepth 100000 in
set_option maxHeartbeats 2000000 in
theorem works_ge_M {d n0 a : Nat} {κ : Kd} {h0 : Hp} (hd : 2 ≤ d) {s : St} {l : Nat} {x y : Int64} (hl : l + 2 ≤ 64) (hm : s.1 35 = nI (l + 2)) (hx : s.2.2.1 34 l = x) (hy : s.2.2.1 34 (l + 1) = y) : MV MX12_works (d, 0, 0, n0, κ) a h0 s 0 [some (.ref a), some (.int (258)), none, none, none, none, none, none] [] (fun w s' => w = some (.int (bI (inR (joinL 37 x y)))) ∧ scW s s' ∧ (inR (joinL 37 x y) = true → s'.1 35 = nI (l + 1) ∧ s'.2.2.1 34 = vp_updL (s.2.2.1 34) l (joinL 37 x y))) := by
  refine MV.aload_n dX12_works_0 rfl ?_
  refine MV.getf 34 fl_X12_72 dX12_works_1 (by decide) rfl ?_
  refine MV.aload_n dX12_works_4 rfl ?_
  refine MV.getf 35 fl_X12_317 dX12_works_5 (by decide) rfl ?_
  refine MV.iconst (v := 1) dX12_works_8 (by decide) ?_
  refine MV.isub dX12_works_9 ?_
  refine MV.jld C12_in34 dX12_works_10 (by rw [hm]; exact nI_pred1 _) (by omega) (by decide) ?_
  rw [hy]
  refine MV.lstore_n dX12_works_11 (by decide) rfl ?_
  refine MV.iload_n dX12_works_12 rfl ?_
  refine MV.sipush (v := 260) dX12_works_13 (by decide) ?_
  refine MV.icmp_ne 46 dX12_works_16 (by decide) (fun _ => ?_) (fun z => absurd z (by decide))
  refine MV.aload_n dX12_works_46 rfl ?_
  refine MV.getf 34 fl_X12_72 dX12_works_47 (by decide) rfl ?_
  refine MV.aload_n dX12_works_50 rfl ?_
  refine MV.getf 35 fl_X12_317 dX12_works_51 (by decide) rfl ?_
  refine MV.iconst (v := 2) dX12_works_54 (by decide) ?_
  refine MV.isub dX12_works_55 ?_
  refine MV.jld C12_in34 dX12_works_56 (by rw [hm]; exact nI_pred2 _) (by omega) (by decide) ?_
  rw [hx]
  refine MV.lstore dX12_works_57 (by decide) rfl ?_
  refine MV.aload_n dX12_works_59 rfl ?_
  refine MV.dup dX12_works_60 rfl ?_
  refine MV.getf 35 fl_X12_317 dX12_works_61 (by decide) rfl ?_
  refine MV.iconst (v := 1) dX12_works_64 (by decide) ?_
  refine MV.isub dX12_works_65 ?_
  rw [hm, nI_pred1]
  refine MV.putf 35 fl_X12_317 dX12_works_66 (by decide) rfl (rfl) (rfl) C12_s35 ?_
  refine MV.iload_n dX12_works_69 rfl ?_
  refine MV.lsw (off := 248) 318 dX12_works_70 (by decide) (by decide) (by decide) ?_
  refine MV.lload dX12_works_318 rfl ?_
  refine MV.lload_n dX12_works_320 rfl ?_
  refine MV.lcmp dX12_works_321 ?_
  refine MV.if_lt 329 dX12_works_322 (by decide) (fun c322 => ?_) (fun c322 => ?_)
  · skip
    refine MV.iconst (v := 0) dX12_works_329 (by decide) ?_
    refine MV.cS1 yoX12_is ml_X12_320 st_X12_is dX12_works_330 (Nat.le_of_ble_eq_true rfl) (by omega) rfl (Nat.le_of_ble_eq_true rfl) (fun h H => mIs_V (b := false) (by omega)) ?_
    refine MV.lstore dX12_works_333 (by decide) rfl ?_
    refine MV.goto 407 dX12_works_335 (by decide) ?_
    have hj : joinL 37 x y = iL false := by
      first | (simp_all [joinL, soB, iL, lg_cmp_lt, lg_cmp_gt, lg_cmp_le, lg_cmp_ge, lg_cmp_eq]; done) | (simp_all [-Int64.not_lt, -Int64.not_le, joinL, soB, iL, lg_cmp_lt, lg_cmp_gt, lg_cmp_le, lg_cmp_ge, lg_cmp_eq]; done)
    refine MV.post (fun w s' q => ?_) (worksTail_M (l := l) (v := iL false) (by omega) (by omega) rfl)
    obtain ⟨rfl, rfl⟩ := q
    rw [hj]
    exact ⟨rfl, scW.p.tr scW.w, fun _ => ⟨rfl, rfl⟩⟩
  · skip
    refine MV.iconst (v := 1) dX12_works_325 (by decide) ?_
    refine MV.goto 330 dX12_works_326 (by decide) ?_
    refine MV.cS1 yoX12_is ml_X12_320 st_X12_is dX12_works_330 (Nat.le_of_ble_eq_true rfl) (by omega) rfl (Nat.le_of_ble_eq_true rfl) (fun h H => mIs_V (b := true) (by omega)) ?_
    refine MV.lstore dX12_works_333 (by decide) rfl ?_
    refine MV.goto 407 dX12_works_335 (by decide) ?_
    have hj : joinL 37 x y = iL true := by
      first | (simp_all [joinL, soB, iL, lg_cmp_lt, lg_cmp_gt, lg_cmp_le, lg_cmp_ge, lg_cmp_eq]; done) | (simp_all [-Int64.not_lt, -Int64.not_le, joinL, soB, iL, lg_cmp_lt, lg_cmp_gt, lg_cmp_le, lg_cmp_ge, lg_cmp_eq]; done)
    refine MV.post (fun w s' q => ?_) (worksTail_M (l := l) (v := iL true) (by omega) (by omega) rfl)
    obtain ⟨rfl, rfl⟩ := q
    rw [hj]
    exact ⟨rfl, scW.p.tr scW.w, fun _ => ⟨rfl, rfl⟩⟩
set_option maxRecDepth 100000 in
set_option maxHeartbeats 2000000 in
theorem works_ne_M {d n0 a : Nat} {κ : Kd} {h0 : Hp} (hd : 2 ≤ d) {s : St} {l : Nat} {x y : Int64} (hl : l + 2 ≤ 64) (hm : s.1 35 = nI (l + 2)) (hx : s.2.2.1 34 l = x) (hy : s.2.2.1 34 (l + 1) = y) : MV MX12_works (d, 0, 0, n0, κ) a h0 s 0 [some (.ref a), some (.int (257)), none, none, none, none, none, none] [] (fun w s' => w = some (.int (bI (inR (joinL 36 x y)))) ∧ scW s s' ∧ (inR (joinL 36 x y) = true → s'.1 35 = nI (l + 1) ∧ s'.2.2.1 34 = vp_updL (s.2.2.1 34) l (joinL 36 x y))) := by
  refine MV.aload_n dX12_works_0 rfl ?_
  refine MV.getf 34 fl_X12_72 dX12_works_1 (by decide) rfl ?_
  refine MV.aload_n dX12_works_4 rfl ?_
  refine MV.getf 35 fl_X12_317 dX12_works_5 (by decide) rfl ?_
  refine MV.iconst (v := 1) dX12_works_8 (by decide) ?_
  refine MV.isub dX12_works_9 ?_
  refine MV.jld C12_in34 dX12_works_10 (by rw [hm]; exact nI_pred1 _) (by omega) (by decide) ?_
  rw [hy]
  refine MV.lstore_n dX12_works_11 (by decide) rfl ?_
  refine MV.iload_n dX12_works_12 rfl ?_
  refine MV.sipush (v := 260) dX12_works_13 (by decide) ?_
  refine MV.icmp_ne 46 dX12_works_16 (by decide) (fun _ => ?_) (fun z => absurd z (by decide))
  refine MV.aload_n dX12_works_46 rfl ?_
  refine MV.getf 34 fl_X12_72 dX12_works_47 (by decide) rfl ?_
  refine MV.aload_n dX12_works_50 rfl ?_
  refine MV.getf 35 fl_X12_317 dX12_works_51 (by decide) rfl ?_
  refine MV.iconst (v := 2) dX12_works_54 (by decide) ?_
  refine MV.isub dX12_works_55 ?_
  refine MV.jld C12_in34 dX12_works_56 (by rw [hm]; exact nI_pred2 _) (by omega) (by decide) ?_
  rw [hx]
  refine MV.lstore dX12_works_57 (by decide) rfl ?_
  refine MV.aload_n dX12_works_59 rfl ?_
  refine MV.dup dX12_works_60 rfl ?_
  refine MV.getf 35 fl_X12_317 dX12_works_61 (by decide) rfl ?_
  refine MV.iconst (v := 1) dX12_works_64 (by decide) ?_
  refine MV.isub dX12_works_65 ?_
  rw [hm, nI_pred1]
  refine MV.putf 35 fl_X12_317 dX12_works_66 (by decide) rfl (rfl) (rfl) C12_s35 ?_
  refine MV.iload_n dX12_works_69 rfl ?_
  refine MV.lsw (off := 268) 338 dX12_works_70 (by decide) (by decide) (by decide) ?_
  refine MV.lload dX12_works_338 rfl ?_
  refine MV.lload_n dX12_works_340 rfl ?_
  refine MV.lcmp dX12_works_341 ?_
  refine MV.if_eq 349 dX12_works_342 (by decide) (fun c342 => ?_) (fun c342 => ?_)
  · skip
    refine MV.iconst (v := 0) dX12_works_349 (by decide) ?_
    refine MV.cS1 yoX12_is ml_X12_320 st_X12_is dX12_works_350 (Nat.le_of_ble_eq_true rfl) (by omega) rfl (Nat.le_of_ble_eq_true rfl) (fun h H => mIs_V (b := false) (by omega)) ?_
    refine MV.lstore dX12_works_353 (by decide) rfl ?_
    refine MV.goto 407 dX12_works_355 (by decide) ?_
    have hj : joinL 36 x y = iL false := by
      first | (simp_all [joinL, soB, iL, lg_cmp_lt, lg_cmp_gt, lg_cmp_le, lg_cmp_ge, lg_cmp_eq]; done) | (simp_all [-Int64.not_lt, -Int64.not_le, joinL, soB, iL, lg_cmp_lt, lg_cmp_gt, lg_cmp_le, lg_cmp_ge, lg_cmp_eq]; done)
    refine MV.post (fun w s' q => ?_) (worksTail_M (l := l) (v := iL false) (by omega) (by omega) rfl)
    obtain ⟨rfl, rfl⟩ := q
    rw [hj]
    exact ⟨rfl, scW.p.tr scW.w, fun _ => ⟨rfl, rfl⟩⟩
  · skip
    refine MV.iconst (v := 1) dX12_works_345 (by decide) ?_
    refine MV.goto 350 dX12_works_346 (by decide) ?_
    refine MV.cS1 yoX12_is ml_X12_320 st_X12_is dX12_works_350 (Nat.le_of_ble_eq_true rfl) (by omega) rfl (Nat.le_of_ble_eq_true rfl) (fun h H => mIs_V (b := true) (by omega)) ?_
    refine MV.lstore dX12_works_353 (by decide) rfl ?_
    refine MV.goto 407 dX12_works_355 (by decide) ?_
    have hj : joinL 36 x y = iL true := by
      first | (simp_all [joinL, soB, iL, lg_cmp_lt, lg_cmp_gt, lg_cmp_le, lg_cmp_ge, lg_cmp_eq]; done) | (simp_all [-Int64.not_lt, -Int64.not_le, joinL, soB, iL, lg_cmp_lt, lg_cmp_gt, lg_cmp_le, lg_cmp_ge, lg_cmp_eq]; done)
    refine MV.post (fun w s' q => ?_) (worksTail_M (l := l) (v := iL true) (by omega) (by omega) rfl)
    obtain ⟨rfl, rfl⟩ := q
    rw [hj]
    exact ⟨rfl, scW.p.tr scW.w, fun _ => ⟨rfl, rfl⟩⟩
set_option maxRecDepth 100000 in
set_option maxHeartbeats 2000000 in
theorem works_and_M {d n0 a : Nat} {κ : Kd} {h0 : Hp} (hd : 2 ≤ d) {s : St} {l : Nat} {x y : Int64} (hl : l + 2 ≤ 64) (hm : s.1 35 = nI (l + 2)) (hx : s.2.2.1 34 l = x) (hy : s.2.2.1 34 (l + 1) = y) : MV MX12_works (d, 0, 0, n0, κ) a h0 s 0 [some (.ref a), some (.int (261)), none, none, none, none, none, none] [] (fun w s' => w = some (.int (bI (inR (joinL 19 x y)))) ∧ scW s s' ∧ (inR (joinL 19 x y) = true → s'.1 35 = nI (l + 1) ∧ s'.2.2.1 34 = vp_updL (s.2.2.1 34) l (joinL 19 x y))) := by
  refine MV.aload_n dX12_works_0 rfl ?_
  refine MV.getf 34 fl_X12_72 dX12_works_1 (by decide) rfl ?_
  refine MV.aload_n dX12_works_4 rfl ?_
  refine MV.getf 35 fl_X12_317 dX12_works_5 (by decide) rfl ?_
  refine MV.iconst (v := 1) dX12_works_8 (by decide) ?_
  refine MV.isub dX12_works_9 ?_
  refine MV.jld C12_in34 dX12_works_10 (by rw [hm]; exact nI_pred1 _) (by omega) (by decide) ?_
  rw [hy]
  refine MV.lstore_n dX12_works_11 (by decide) rfl ?_
  refine MV.iload_n dX12_works_12 rfl ?_
  refine MV.sipush (v := 260) dX12_works_13 (by decide) ?_
  refine MV.icmp_ne 46 dX12_works_16 (by decide) (fun _ => ?_) (fun z => absurd z (by decide))
  refine MV.aload_n dX12_works_46 rfl ?_
  refine MV.getf 34 fl_X12_72 dX12_works_47 (by decide) rfl ?_
  refine MV.aload_n dX12_works_50 rfl ?_
  refine MV.getf 35 fl_X12_317 dX12_works_51 (by decide) rfl ?_
  refine MV.iconst (v := 2) dX12_works_54 (by decide) ?_
  refine MV.isub dX12_works_55 ?_
  refine MV.jld C12_in34 dX12_works_56 (by rw [hm]; exact nI_pred2 _) (by omega) (by decide) ?_
  rw [hx]
  refine MV.lstore dX12_works_57 (by decide) rfl ?_
  refine MV.aload_n dX12_works_59 rfl ?_
  refine MV.dup dX12_works_60 rfl ?_
  refine MV.getf 35 fl_X12_317 dX12_works_61 (by decide) rfl ?_
  refine MV.iconst (v := 1) dX12_works_64 (by decide) ?_
  refine MV.isub dX12_works_65 ?_
  rw [hm, nI_pred1]
  refine MV.putf 35 fl_X12_317 dX12_works_66 (by decide) rfl (rfl) (rfl) C12_s35 ?_
  refine MV.iload_n dX12_works_69 rfl ?_
  refine MV.lsw (off := 288) 358 dX12_works_70 (by decide) (by decide) (by decide) ?_
  refine MV.lload dX12_works_358 rfl ?_
  refine MV.lconst (v := 0) dX12_works_360 (by decide) ?_
  refine MV.lcmp dX12_works_361 ?_
  refine MV.if_eq 375 dX12_works_362 (by decide) (fun c362 => ?_) (fun c362 => ?_)
  · skip
    refine MV.iconst (v := 0) dX12_works_375 (by decide) ?_
    refine MV.cS1 yoX12_is ml_X12_320 st_X12_is dX12_works_376 (Nat.le_of_ble_eq_true rfl) (by omega) rfl (Nat.le_of_ble_eq_true rfl) (fun h H => mIs_V (b := false) (by omega)) ?_
    refine MV.lstore dX12_works_379 (by decide) rfl ?_
    refine MV.goto 407 dX12_works_381 (by decide) ?_
    have hj : joinL 19 x y = iL false := by
      first | (simp_all [joinL, soB, iL, lg_cmp_lt, lg_cmp_gt, lg_cmp_le, lg_cmp_ge, lg_cmp_eq]; done) | (simp_all [-Int64.not_lt, -Int64.not_le, joinL, soB, iL, lg_cmp_lt, lg_cmp_gt, lg_cmp_le, lg_cmp_ge, lg_cmp_eq]; done)
    refine MV.post (fun w s' q => ?_) (worksTail_M (l := l) (v := iL false) (by omega) (by omega) rfl)
    obtain ⟨rfl, rfl⟩ := q
    rw [hj]
    exact ⟨rfl, scW.p.tr scW.w, fun _ => ⟨rfl, rfl⟩⟩
  · skip
    refine MV.lload_n dX12_works_365 rfl ?_
    refine MV.lconst (v := 0) dX12_works_366 (by decide) ?_
    refine MV.lcmp dX12_works_367 ?_
    refine MV.if_eq 375 dX12_works_368 (by decide) (fun c368 => ?_) (fun c368 => ?_)
    · skip
      refine MV.iconst (v := 0) dX12_works_375 (by decide) ?_
      refine MV.cS1 yoX12_is ml_X12_320 st_X12_is dX12_works_376 (Nat.le_of_ble_eq_true rfl) (by omega) rfl (Nat.le_of_ble_eq_true rfl) (fun h H => mIs_V (b := false) (by omega)) ?_
      refine MV.lstore dX12_works_379 (by decide) rfl ?_
      refine MV.goto 407 dX12_works_381 (by decide) ?_
      have hj : joinL 19 x y = iL false := by
        first | (simp_all [joinL, soB, iL, lg_cmp_lt, lg_cmp_gt, lg_cmp_le, lg_cmp_ge, lg_cmp_eq]; done) | (simp_all [-Int64.not_lt, -Int64.not_le, joinL, soB, iL, lg_cmp_lt, lg_cmp_gt, lg_cmp_le, lg_cmp_ge, lg_cmp_eq]; done)
      refine MV.post (fun w s' q => ?_) (worksTail_M (l := l) (v := iL false) (by omega) (by omega) rfl)
      obtain ⟨rfl, rfl⟩ := q
      rw [hj]
      exact ⟨rfl, scW.p.tr scW.w, fun _ => ⟨rfl, rfl⟩⟩
    · skip
      refine MV.iconst (v := 1) dX12_works_371 (by decide) ?_
      refine MV.goto 376 dX12_works_372 (by decide) ?_
      refine MV.cS1 yoX12_is ml_X12_320 st_X12_is dX12_works_376 (Nat.le_of_ble_eq_true rfl) (by omega) rfl (Nat.le_of_ble_eq_true rfl) (fun h H => mIs_V (b := true) (by omega)) ?_
      refine MV.lstore dX12_works_379 (by decide) rfl ?_
      refine MV.goto 407 dX12_works_381 (by decide) ?_
      have hj : joinL 19 x y = iL true := by
        first | (simp_all [joinL, soB, iL, lg_cmp_lt, lg_cmp_gt, lg_cmp_le, lg_cmp_ge, lg_cmp_eq]; done) | (simp_all [-Int64.not_lt, -Int64.not_le, joinL, soB, iL, lg_cmp_lt, lg_cmp_gt, lg_cmp_le, lg_cmp_ge, lg_cmp_eq]; done)
      refine MV.post (fun w s' q => ?_) (worksTail_M (l := l) (v := iL true) (by omega) (by omega) rfl)
      obtain ⟨rfl, rfl⟩ := q
      rw [hj]
      exact ⟨rfl, scW.p.tr scW.w, fun _ => ⟨rfl, rfl⟩⟩
set_option maxRecDepth 100000 in
set_option maxHeartbeats 2000000 in
theorem works_or_M {d n0 a : Nat} {κ : Kd} {h0 : Hp} (hd : 2 ≤ d) {s : St} {l : Nat} {x y : Int64} (hl : l + 2 ≤ 64) (hm : s.1 35 = nI (l + 2)) (hx : s.2.2.1 34 l = x) (hy : s.2.2.1 34 (l + 1) = y) : MV MX12_works (d, 0, 0, n0, κ) a h0 s 0 [some (.ref a), some (.int (262)), none, none, none, none, none, none] [] (fun w s' => w = some (.int (bI (inR (joinL 18 x y)))) ∧ scW s s' ∧ (inR (joinL 18 x y) = true → s'.1 35 = nI (l + 1) ∧ s'.2.2.1 34 = vp_updL (s.2.2.1 34) l (joinL 18 x y))) := by
  refine MV.aload_n dX12_works_0 rfl ?_
  refine MV.getf 34 fl_X12_72 dX12_works_1 (by decide) rfl ?_
  refine MV.aload_n dX12_works_4 rfl ?_
  refine MV.getf 35 fl_X12_317 dX12_works_5 (by decide) rfl ?_
  refine MV.iconst (v := 1) dX12_works_8 (by decide) ?_
  refine MV.isub dX12_works_9 ?_
  refine MV.jld C12_in34 dX12_works_10 (by rw [hm]; exact nI_pred1 _) (by omega) (by decide) ?_
  rw [hy]
  refine MV.lstore_n dX12_works_11 (by decide) rfl ?_
  refine MV.iload_n dX12_works_12 rfl ?_
  refine MV.sipush (v := 260) dX12_works_13 (by decide) ?_
  refine MV.icmp_ne 46 dX12_works_16 (by decide) (fun _ => ?_) (fun z => absurd z (by decide))
  refine MV.aload_n dX12_works_46 rfl ?_
  refine MV.getf 34 fl_X12_72 dX12_works_47 (by decide) rfl ?_
  refine MV.aload_n dX12_works_50 rfl ?_
  refine MV.getf 35 fl_X12_317 dX12_works_51 (by decide) rfl ?_
  refine MV.iconst (v := 2) dX12_works_54 (by decide) ?_
  refine MV.isub dX12_works_55 ?_
  refine MV.jld C12_in34 dX12_works_56 (by rw [hm]; exact nI_pred2 _) (by omega) (by decide) ?_
  rw [hx]
  refine MV.lstore dX12_works_57 (by decide) rfl ?_
  refine MV.aload_n dX12_works_59 rfl ?_
  refine MV.dup dX12_works_60 rfl ?_
  refine MV.getf 35 fl_X12_317 dX12_works_61 (by decide) rfl ?_
  refine MV.iconst (v := 1) dX12_works_64 (by decide) ?_
  refine MV.isub dX12_works_65 ?_
  rw [hm, nI_pred1]
  refine MV.putf 35 fl_X12_317 dX12_works_66 (by decide) rfl (rfl) (rfl) C12_s35 ?_
  refine MV.iload_n dX12_works_69 rfl ?_
  refine MV.lsw (off := 314) 384 dX12_works_70 (by decide) (by decide) (by decide) ?_
  refine MV.lload dX12_works_384 rfl ?_
  refine MV.lconst (v := 0) dX12_works_386 (by decide) ?_
  refine MV.lcmp dX12_works_387 ?_
  refine MV.if_ne 397 dX12_works_388 (by decide) (fun c388 => ?_) (fun c388 => ?_)
  · skip
    refine MV.iconst (v := 1) dX12_works_397 (by decide) ?_
    refine MV.goto 402 dX12_works_398 (by decide) ?_
    refine MV.cS1 yoX12_is ml_X12_320 st_X12_is dX12_works_402 (Nat.le_of_ble_eq_true rfl) (by omega) rfl (Nat.le_of_ble_eq_true rfl) (fun h H => mIs_V (b := true) (by omega)) ?_
    refine MV.lstore dX12_works_405 (by decide) rfl ?_
    have hj : joinL 18 x y = iL true := by
      first | (simp_all [joinL, soB, iL, lg_cmp_lt, lg_cmp_gt, lg_cmp_le, lg_cmp_ge, lg_cmp_eq]; done) | (simp_all [-Int64.not_lt, -Int64.not_le, joinL, soB, iL, lg_cmp_lt, lg_cmp_gt, lg_cmp_le, lg_cmp_ge, lg_cmp_eq]; done)
    refine MV.post (fun w s' q => ?_) (worksTail_M (l := l) (v := iL true) (by omega) (by omega) rfl)
    obtain ⟨rfl, rfl⟩ := q
    rw [hj]
    exact ⟨rfl, scW.p.tr scW.w, fun _ => ⟨rfl, rfl⟩⟩
  · skip
    refine MV.lload_n dX12_works_391 rfl ?_
    refine MV.lconst (v := 0) dX12_works_392 (by decide) ?_
    refine MV.lcmp dX12_works_393 ?_
    refine MV.if_eq 401 dX12_works_394 (by decide) (fun c394 => ?_) (fun c394 => ?_)
    · skip
      refine MV.iconst (v := 0) dX12_works_401 (by decide) ?_
      refine MV.cS1 yoX12_is ml_X12_320 st_X12_is dX12_works_402 (Nat.le_of_ble_eq_true rfl) (by omega) rfl (Nat.le_of_ble_eq_true rfl) (fun h H => mIs_V (b := false) (by omega)) ?_
      refine MV.lstore dX12_works_405 (by decide) rfl ?_
      have hj : joinL 18 x y = iL false := by
        first | (simp_all [joinL, soB, iL, lg_cmp_lt, lg_cmp_gt, lg_cmp_le, lg_cmp_ge, lg_cmp_eq]; done) | (simp_all [-Int64.not_lt, -Int64.not_le, joinL, soB, iL, lg_cmp_lt, lg_cmp_gt, lg_cmp_le, lg_cmp_ge, lg_cmp_eq]; done)
      refine MV.post (fun w s' q => ?_) (worksTail_M (l := l) (v := iL false) (by omega) (by omega) rfl)
      obtain ⟨rfl, rfl⟩ := q
      rw [hj]
      exact ⟨rfl, scW.p.tr scW.w, fun _ => ⟨rfl, rfl⟩⟩
    · skip
      refine MV.iconst (v := 1) dX12_works_397 (by decide) ?_
      refine MV.goto 402 dX12_works_398 (by decide) ?_
      refine MV.cS1 yoX12_is ml_X12_320 st_X12_is dX12_works_402 (Nat.le_of_ble_eq_true rfl) (by omega) rfl (Nat.le_of_ble_eq_true rfl) (fun h H => mIs_V (b := true) (by omega)) ?_
      refine MV.lstore dX12_works_405 (by decide) rfl ?_
      have hj : joinL 18 x y = iL true := by
        first | (simp_all [joinL, soB, iL, lg_cmp_lt, lg_cmp_gt, lg_cmp_le, lg_cmp_ge, lg_cmp_eq]; done) | (simp_all [-Int64.not_lt, -Int64.not_le, joinL, soB, iL, lg_cmp_lt, lg_cmp_gt, lg_cmp_le, lg_cmp_ge, lg_cmp_eq]; done)
      refine MV.post (fun w s' q => ?_) (worksTail_M (l := l) (v := iL true) (by omega) (by omega) rfl)
      obtain ⟨rfl, rfl⟩ := q
      rw [hj]
      exact ⟨rfl, scW.p.tr scW.w, fun _ => ⟨rfl, rfl⟩⟩
set_option maxRecDepth 100000 in
set_option maxHeartbeats 2000000 in
theorem works_add_M {d n0 a : Nat} {κ : Kd} {h0 : Hp} (hd : 2 ≤ d) {s : St} {l : Nat} {x y : Int64} (hl : l + 2 ≤ 64) (hm : s.1 35 = nI (l + 2)) (hx : s.2.2.1 34 l = x) (hy : s.2.2.1 34 (l + 1) = y) : MV MX12_works (d, 0, 0, n0, κ) a h0 s 0 [some (.ref a), some (.int (43)), none, none, none, none, none, none] [] (fun w s' => w = some (.int (bI (inR (joinL 39 x y)))) ∧ scW s s' ∧ (inR (joinL 39 x y) = true → s'.1 35 = nI (l + 1) ∧ s'.2.2.1 34 = vp_updL (s.2.2.1 34) l (joinL 39 x y))) := by
  refine MV.aload_n dX12_works_0 rfl ?_
  refine MV.getf 34 fl_X12_72 dX12_works_1 (by decide) rfl ?_
  refine MV.aload_n dX12_works_4 rfl ?_
  refine MV.getf 35 fl_X12_317 dX12_works_5 (by decide) rfl ?_
  refine MV.iconst (v := 1) dX12_works_8 (by decide) ?_
  refine MV.isub dX12_works_9 ?_
  refine MV.jld C12_in34 dX12_works_10 (by rw [hm]; exact nI_pred1 _) (by omega) (by decide) ?_
  rw [hy]
  refine MV.lstore_n dX12_works_11 (by decide) rfl ?_
  refine MV.iload_n dX12_works_12 rfl ?_
  refine MV.sipush (v := 260) dX12_works_13 (by decide) ?_
  refine MV.icmp_ne 46 dX12_works_16 (by decide) (fun _ => ?_) (fun z => absurd z (by decide))
  refine MV.aload_n dX12_works_46 rfl ?_
  refine MV.getf 34 fl_X12_72 dX12_works_47 (by decide) rfl ?_
  refine MV.aload_n dX12_works_50 rfl ?_
  refine MV.getf 35 fl_X12_317 dX12_works_51 (by decide) rfl ?_
  refine MV.iconst (v := 2) dX12_works_54 (by decide) ?_
  refine MV.isub dX12_works_55 ?_
  refine MV.jld C12_in34 dX12_works_56 (by rw [hm]; exact nI_pred2 _) (by omega) (by decide) ?_
  rw [hx]
  refine MV.lstore dX12_works_57 (by decide) rfl ?_
  refine MV.aload_n dX12_works_59 rfl ?_
  refine MV.dup dX12_works_60 rfl ?_
  refine MV.getf 35 fl_X12_317 dX12_works_61 (by decide) rfl ?_
  refine MV.iconst (v := 1) dX12_works_64 (by decide) ?_
  refine MV.isub dX12_works_65 ?_
  rw [hm, nI_pred1]
  refine MV.putf 35 fl_X12_317 dX12_works_66 (by decide) rfl (rfl) (rfl) C12_s35 ?_
  refine MV.iload_n dX12_works_69 rfl ?_
  refine MV.lsw (off := 98) 168 dX12_works_70 (by decide) (by decide) (by decide) ?_
  refine MV.lload dX12_works_168 rfl ?_
  refine MV.lload_n dX12_works_170 rfl ?_
  refine MV.ladd dX12_works_171 ?_
  refine MV.lstore dX12_works_172 (by decide) rfl ?_
  refine MV.goto 407 dX12_works_174 (by decide) ?_
  have hj : joinL 39 x y = x + y := by
    simp [joinL]
  refine MV.post (fun w s' q => ?_) (worksTail_M (l := l) (v := x + y) (by omega) (by omega) rfl)
  obtain ⟨rfl, rfl⟩ := q
  rw [hj]
  exact ⟨rfl, scW.p.tr scW.w, fun _ => ⟨rfl, rfl⟩⟩
set_option maxRecDepth 100000 in
set_option maxHeartbeats 2000000 in
theorem works_sub_M {d n0 a : Nat} {κ : Kd} {h0 : Hp} (hd : 2 ≤ d) {s : St} {l : Nat} {x y : Int64} (hl : l + 2 ≤ 64) (hm : s.1 35 = nI (l + 2)) (hx : s.2.2.1 34 l = x) (hy : s.2.2.1 34 (l + 1) = y) : MV MX12_works (d, 0, 0, n0, κ) a h0 s 0 [some (.ref a), some (.int (45)), none, none, none, none, none, none] [] (fun w s' => w = some (.int (bI (inR (joinL 40 x y)))) ∧ scW s s' ∧ (inR (joinL 40 x y) = true → s'.1 35 = nI (l + 1) ∧ s'.2.2.1 34 = vp_updL (s.2.2.1 34) l (joinL 40 x y))) := by
  refine MV.aload_n dX12_works_0 rfl ?_
  refine MV.getf 34 fl_X12_72 dX12_works_1 (by decide) rfl ?_
  refine MV.aload_n dX12_works_4 rfl ?_
  refine MV.getf 35 fl_X12_317 dX12_works_5 (by decide) rfl ?_
  refine MV.iconst (v := 1) dX12_works_8 (by decide) ?_
  refine MV.isub dX12_works_9 ?_
  refine MV.jld C12_in34 dX12_works_10 (by rw [hm]; exact nI_pred1 _) (by omega) (by decide) ?_
  rw [hy]
  refine MV.lstore_n dX12_works_11 (by decide) rfl ?_
  refine MV.iload_n dX12_works_12 rfl ?_
  refine MV.sipush (v := 260) dX12_works_13 (by decide) ?_
  refine MV.icmp_ne 46 dX12_works_16 (by decide) (fun _ => ?_) (fun z => absurd z (by decide))
  refine MV.aload_n dX12_works_46 rfl ?_
  refine MV.getf 34 fl_X12_72 dX12_works_47 (by decide) rfl ?_
  refine MV.aload_n dX12_works_50 rfl ?_
  refine MV.getf 35 fl_X12_317 dX12_works_51 (by decide) rfl ?_
  refine MV.iconst (v := 2) dX12_works_54 (by decide) ?_
  refine MV.isub dX12_works_55 ?_
  refine MV.jld C12_in34 dX12_works_56 (by rw [hm]; exact nI_pred2 _) (by omega) (by decide) ?_
  rw [hx]
  refine MV.lstore dX12_works_57 (by decide) rfl ?_
  refine MV.aload_n dX12_works_59 rfl ?_
  refine MV.dup dX12_works_60 rfl ?_
  refine MV.getf 35 fl_X12_317 dX12_works_61 (by decide) rfl ?_
  refine MV.iconst (v := 1) dX12_works_64 (by decide) ?_
  refine MV.isub dX12_works_65 ?_
  rw [hm, nI_pred1]
  refine MV.putf 35 fl_X12_317 dX12_works_66 (by decide) rfl (rfl) (rfl) C12_s35 ?_
  refine MV.iload_n dX12_works_69 rfl ?_
  refine MV.lsw (off := 107) 177 dX12_works_70 (by decide) (by decide) (by decide) ?_
  refine MV.lload dX12_works_177 rfl ?_
  refine MV.lload_n dX12_works_179 rfl ?_
  refine MV.lsub dX12_works_180 ?_
  refine MV.lstore dX12_works_181 (by decide) rfl ?_
  refine MV.goto 407 dX12_works_183 (by decide) ?_
  have hj : joinL 40 x y = x - y := by
    simp [joinL]
  refine MV.post (fun w s' q => ?_) (worksTail_M (l := l) (v := x - y) (by omega) (by omega) rfl)
  obtain ⟨rfl, rfl⟩ := q
  rw [hj]
  exact ⟨rfl, scW.p.tr scW.w, fun _ => ⟨rfl, rfl⟩⟩
set_option maxRecDepth 100000 in
set_option maxHeartbeats 2000000 in
theorem works_mul_M {d n0 a : Nat} {κ : Kd} {h0 : Hp} (hd : 2 ≤ d) {s : St} {l : Nat} {x y : Int64} (hl : l + 2 ≤ 64) (hm : s.1 35 = nI (l + 2)) (hx : s.2.2.1 34 l = x) (hy : s.2.2.1 34 (l + 1) = y) : MV MX12_works (d, 0, 0, n0, κ) a h0 s 0 [some (.ref a), some (.int (42)), none, none, none, none, none, none] [] (fun w s' => w = some (.int (bI (inR (joinL 41 x y)))) ∧ scW s s' ∧ (inR (joinL 41 x y) = true → s'.1 35 = nI (l + 1) ∧ s'.2.2.1 34 = vp_updL (s.2.2.1 34) l (joinL 41 x y))) := by
  refine MV.aload_n dX12_works_0 rfl ?_
  refine MV.getf 34 fl_X12_72 dX12_works_1 (by decide) rfl ?_
  refine MV.aload_n dX12_works_4 rfl ?_
  refine MV.getf 35 fl_X12_317 dX12_works_5 (by decide) rfl ?_
  refine MV.iconst (v := 1) dX12_works_8 (by decide) ?_
  refine MV.isub dX12_works_9 ?_
  refine MV.jld C12_in34 dX12_works_10 (by rw [hm]; exact nI_pred1 _) (by omega) (by decide) ?_
  rw [hy]
  refine MV.lstore_n dX12_works_11 (by decide) rfl ?_
  refine MV.iload_n dX12_works_12 rfl ?_
  refine MV.sipush (v := 260) dX12_works_13 (by decide) ?_
  refine MV.icmp_ne 46 dX12_works_16 (by decide) (fun _ => ?_) (fun z => absurd z (by decide))
  refine MV.aload_n dX12_works_46 rfl ?_
  refine MV.getf 34 fl_X12_72 dX12_works_47 (by decide) rfl ?_
  refine MV.aload_n dX12_works_50 rfl ?_
  refine MV.getf 35 fl_X12_317 dX12_works_51 (by decide) rfl ?_
  refine MV.iconst (v := 2) dX12_works_54 (by decide) ?_
  refine MV.isub dX12_works_55 ?_
  refine MV.jld C12_in34 dX12_works_56 (by rw [hm]; exact nI_pred2 _) (by omega) (by decide) ?_
  rw [hx]
  refine MV.lstore dX12_works_57 (by decide) rfl ?_
  refine MV.aload_n dX12_works_59 rfl ?_
  refine MV.dup dX12_works_60 rfl ?_
  refine MV.getf 35 fl_X12_317 dX12_works_61 (by decide) rfl ?_
  refine MV.iconst (v := 1) dX12_works_64 (by decide) ?_
  refine MV.isub dX12_works_65 ?_
  rw [hm, nI_pred1]
  refine MV.putf 35 fl_X12_317 dX12_works_66 (by decide) rfl (rfl) (rfl) C12_s35 ?_
  refine MV.iload_n dX12_works_69 rfl ?_
  refine MV.lsw (off := 116) 186 dX12_works_70 (by decide) (by decide) (by decide) ?_
  refine MV.lload dX12_works_186 rfl ?_
  refine MV.lconst (v := 0) dX12_works_188 (by decide) ?_
  refine MV.lcmp dX12_works_189 ?_
  refine MV.if_eq 212 dX12_works_190 (by decide) (fun c190 => ?_) (fun c190 => ?_)
  · skip
    refine MV.lload dX12_works_212 rfl ?_
    refine MV.lload_n dX12_works_214 rfl ?_
    refine MV.lmul dX12_works_215 ?_
    refine MV.lstore dX12_works_216 (by decide) rfl ?_
    refine MV.goto 407 dX12_works_218 (by decide) ?_
    have hj : joinL 41 x y = x * y := by
      first | (rw [show joinL 41 x y = prodL x y by simp [joinL]]; unfold prodL; rw [if_pos ((absL_0 x).mpr (by simpa [lg_cmp_eq] using c190))]) | (rw [show joinL 41 x y = prodL x y by simp [joinL]]; unfold prodL; rw [if_neg (fun z => c190 (by simpa [lg_cmp_eq] using (absL_0 x).mp z)), if_pos (by simpa [lg_cmp_le, absL_m, -Int64.not_lt, -Int64.not_le] using c207)])
    refine MV.post (fun w s' q => ?_) (worksTail_M (l := l) (v := x * y) (by omega) (by omega) rfl)
    obtain ⟨rfl, rfl⟩ := q
    rw [hj]
    exact ⟨rfl, scW.p.tr scW.w, fun _ => ⟨rfl, rfl⟩⟩
  · skip
    refine MV.lload_n dX12_works_193 rfl ?_
    refine MV.mabsl ml_X12_324 st_J9_abs_067f4 ini_J9 co_J9_abs_067f4 dX12_works_194 (by omega) (Nat.le_of_ble_eq_true rfl) ?_
    refine MV.ldc2 kc_X12_330 dX12_works_197 ?_
    refine MV.lload dX12_works_200 rfl ?_
    refine MV.mabsl ml_X12_324 st_J9_abs_067f4 ini_J9 co_J9_abs_067f4 dX12_works_202 (by omega) (Nat.le_of_ble_eq_true rfl) ?_
    refine MV.ldiv dX12_works_205 ((fun q => c190 (by simpa [lg_cmp_eq, absL_0, absL_m] using q))) ?_
    refine MV.lcmp dX12_works_206 ?_
    refine MV.if_le 212 dX12_works_207 (by decide) (fun c207 => ?_) (fun c207 => ?_)
    · skip
      refine MV.lload dX12_works_212 rfl ?_
      refine MV.lload_n dX12_works_214 rfl ?_
      refine MV.lmul dX12_works_215 ?_
      refine MV.lstore dX12_works_216 (by decide) rfl ?_
      refine MV.goto 407 dX12_works_218 (by decide) ?_
      have hj : joinL 41 x y = x * y := by
        first | (rw [show joinL 41 x y = prodL x y by simp [joinL]]; unfold prodL; rw [if_pos ((absL_0 x).mpr (by simpa [lg_cmp_eq] using c190))]) | (rw [show joinL 41 x y = prodL x y by simp [joinL]]; unfold prodL; rw [if_neg (fun z => c190 (by simpa [lg_cmp_eq] using (absL_0 x).mp z)), if_pos (by simpa [lg_cmp_le, absL_m, -Int64.not_lt, -Int64.not_le] using c207)])
      refine MV.post (fun w s' q => ?_) (worksTail_M (l := l) (v := x * y) (by omega) (by omega) rfl)
      obtain ⟨rfl, rfl⟩ := q
      rw [hj]
      exact ⟨rfl, scW.p.tr scW.w, fun _ => ⟨rfl, rfl⟩⟩
    · skip
      refine MV.iconst (v := 0) dX12_works_210 (by decide) ?_
      refine MV.zret .boolean dX12_works_211 rfl (rfl) ?_
      have hE : inR (joinL 41 x y) = false := by
        have : joinL 41 x y = ERR := by
          rw [show joinL 41 x y = prodL x y by simp [joinL]]; unfold prodL; rw [if_neg (fun z => c190 (by simpa [lg_cmp_eq] using (absL_0 x).mp z)), if_neg (by simpa [lg_cmp_le, absL_m, -Int64.not_lt, -Int64.not_le] using c207)]
        rw [this]; decide
      exact ⟨by rw [hE]; rfl, scW.p, fun z => by rw [hE] at z; cases z⟩
set_option maxRecDepth 100000 in
set_option maxHeartbeats 2000000 in
theorem works_div_M {d n0 a : Nat} {κ : Kd} {h0 : Hp} (hd : 2 ≤ d) {s : St} {l : Nat} {x y : Int64} (hl : l + 2 ≤ 64) (hm : s.1 35 = nI (l + 2)) (hx : s.2.2.1 34 l = x) (hy : s.2.2.1 34 (l + 1) = y) : MV MX12_works (d, 0, 0, n0, κ) a h0 s 0 [some (.ref a), some (.int (47)), none, none, none, none, none, none] [] (fun w s' => w = some (.int (bI (inR (joinL 42 x y)))) ∧ scW s s' ∧ (inR (joinL 42 x y) = true → s'.1 35 = nI (l + 1) ∧ s'.2.2.1 34 = vp_updL (s.2.2.1 34) l (joinL 42 x y))) := by
  refine MV.aload_n dX12_works_0 rfl ?_
  refine MV.getf 34 fl_X12_72 dX12_works_1 (by decide) rfl ?_
  refine MV.aload_n dX12_works_4 rfl ?_
  refine MV.getf 35 fl_X12_317 dX12_works_5 (by decide) rfl ?_
  refine MV.iconst (v := 1) dX12_works_8 (by decide) ?_
  refine MV.isub dX12_works_9 ?_
  refine MV.jld C12_in34 dX12_works_10 (by rw [hm]; exact nI_pred1 _) (by omega) (by decide) ?_
  rw [hy]
  refine MV.lstore_n dX12_works_11 (by decide) rfl ?_
  refine MV.iload_n dX12_works_12 rfl ?_
  refine MV.sipush (v := 260) dX12_works_13 (by decide) ?_
  refine MV.icmp_ne 46 dX12_works_16 (by decide) (fun _ => ?_) (fun z => absurd z (by decide))
  refine MV.aload_n dX12_works_46 rfl ?_
  refine MV.getf 34 fl_X12_72 dX12_works_47 (by decide) rfl ?_
  refine MV.aload_n dX12_works_50 rfl ?_
  refine MV.getf 35 fl_X12_317 dX12_works_51 (by decide) rfl ?_
  refine MV.iconst (v := 2) dX12_works_54 (by decide) ?_
  refine MV.isub dX12_works_55 ?_
  refine MV.jld C12_in34 dX12_works_56 (by rw [hm]; exact nI_pred2 _) (by omega) (by decide) ?_
  rw [hx]
  refine MV.lstore dX12_works_57 (by decide) rfl ?_
  refine MV.aload_n dX12_works_59 rfl ?_
  refine MV.dup dX12_works_60 rfl ?_
  refine MV.getf 35 fl_X12_317 dX12_works_61 (by decide) rfl ?_
  refine MV.iconst (v := 1) dX12_works_64 (by decide) ?_
  refine MV.isub dX12_works_65 ?_
  rw [hm, nI_pred1]
  refine MV.putf 35 fl_X12_317 dX12_works_66 (by decide) rfl (rfl) (rfl) C12_s35 ?_
  refine MV.iload_n dX12_works_69 rfl ?_
  refine MV.lsw (off := 151) 221 dX12_works_70 (by decide) (by decide) (by decide) ?_
  refine MV.lload_n dX12_works_221 rfl ?_
  refine MV.lconst (v := 0) dX12_works_222 (by decide) ?_
  refine MV.lcmp dX12_works_223 ?_
  refine MV.if_ne 229 dX12_works_224 (by decide) (fun c224 => ?_) (fun c224 => ?_)
  · skip
    refine MV.lload dX12_works_229 rfl ?_
    refine MV.lload_n dX12_works_231 rfl ?_
    refine MV.ldiv dX12_works_232 ((fun q => c224 (by simpa [lg_cmp_eq] using q))) ?_
    refine MV.lstore dX12_works_233 (by decide) rfl ?_
    refine MV.goto 407 dX12_works_235 (by decide) ?_
    have hj : joinL 42 x y = x / y := by
      rw [show joinL 42 x y = (if y = 0 then ERR else x / y) by simp [joinL]]; rw [if_neg (by simpa [lg_cmp_eq] using c224)]
    refine MV.post (fun w s' q => ?_) (worksTail_M (l := l) (v := x / y) (by omega) (by omega) rfl)
    obtain ⟨rfl, rfl⟩ := q
    rw [hj]
    exact ⟨rfl, scW.p.tr scW.w, fun _ => ⟨rfl, rfl⟩⟩
  · skip
    refine MV.iconst (v := 0) dX12_works_227 (by decide) ?_
    refine MV.zret .boolean dX12_works_228 rfl (rfl) ?_
    have hE : inR (joinL 42 x y) = false := by
      have : joinL 42 x y = ERR := by
        rw [show joinL 42 x y = (if y = 0 then ERR else x / y) by simp [joinL]]; rw [if_pos (by simpa [lg_cmp_eq] using c224)]
      rw [this]; decide
    exact ⟨by rw [hE]; rfl, scW.p, fun z => by rw [hE] at z; cases z⟩
set_option maxRecDepth 100000 in
set_option maxHeartbeats 1000000 in
theorem works_not_M {d n0 a : Nat} {κ : Kd} {h0 : Hp} (hd : 2 ≤ d) {s : St} {l : Nat} {y : Int64} (hl : l + 1 ≤ 64) (hm : s.1 35 = nI (l + 1)) (hy : s.2.2.1 34 l = y) : MV MX12_works (d, 0, 0, n0, κ) a h0 s 0 [some (.ref a), some (.int (260)), none, none, none, none, none, none] [] (fun w s' => w = some (.int (bI (inR (joinL 20 y 0)))) ∧ scW s s' ∧ (inR (joinL 20 y 0) = true → s'.1 35 = nI (l + 1) ∧ s'.2.2.1 34 = vp_updL (s.2.2.1 34) l (joinL 20 y 0))) := by
  refine MV.aload_n dX12_works_0 rfl ?_
  refine MV.getf 34 fl_X12_72 dX12_works_1 (by decide) rfl ?_
  refine MV.aload_n dX12_works_4 rfl ?_
  refine MV.getf 35 fl_X12_317 dX12_works_5 (by decide) rfl ?_
  refine MV.iconst (v := 1) dX12_works_8 (by decide) ?_
  refine MV.isub dX12_works_9 ?_
  refine MV.jld C12_in34 dX12_works_10 (by rw [hm]; exact nI_pred _) (by omega) (by decide) ?_
  rw [hy]
  refine MV.lstore_n dX12_works_11 (by decide) rfl ?_
  refine MV.iload_n dX12_works_12 rfl ?_
  refine MV.sipush (v := 260) dX12_works_13 (by decide) ?_
  refine MV.icmp_ne 46 dX12_works_16 (by decide) (fun z => absurd (by decide) z) (fun _ => ?_)
  refine MV.aload_n dX12_works_19 rfl ?_
  refine MV.getf 34 fl_X12_72 dX12_works_20 (by decide) rfl ?_
  refine MV.aload_n dX12_works_23 rfl ?_
  refine MV.getf 35 fl_X12_317 dX12_works_24 (by decide) rfl ?_
  refine MV.iconst (v := 1) dX12_works_27 (by decide) ?_
  refine MV.isub dX12_works_28 ?_
  refine MV.lload_n dX12_works_29 rfl ?_
  refine MV.lconst (v := 0) dX12_works_30 (by decide) ?_
  refine MV.lcmp dX12_works_31 ?_
  refine MV.if_ne 39 dX12_works_32 (by decide) (fun c32 => ?_) (fun c32 => ?_)
  · skip
    refine MV.iconst (v := 0) dX12_works_39 (by decide) ?_
    refine MV.cS1 yoX12_is ml_X12_320 st_X12_is dX12_works_40 (Nat.le_of_ble_eq_true rfl) (by omega) rfl (Nat.le_of_ble_eq_true rfl) (fun h H => mIs_V (b := false) (by omega)) ?_
    refine MV.jst C12_in34 dX12_works_43 (by rw [hm]; exact nI_pred _) (by omega) (by decide) ?_
    refine MV.iconst (v := 1) dX12_works_44 (by decide) ?_
    refine MV.zret .boolean dX12_works_45 rfl (rfl) ?_
    have hj : joinL 20 y 0 = iL (decide (y = 0)) := by simp [joinL]
    rw [hj]
    first
    | rw [show decide (y = 0) = true by simpa [lg_cmp_eq] using c32]; exact ⟨rfl, scW.w, fun _ => ⟨hm, rfl⟩⟩
    | rw [show decide (y = 0) = false by simpa [lg_cmp_eq] using c32]; exact ⟨rfl, scW.w, fun _ => ⟨hm, rfl⟩⟩
  · skip
    refine MV.iconst (v := 1) dX12_works_35 (by decide) ?_
    refine MV.goto 40 dX12_works_36 (by decide) ?_
    refine MV.cS1 yoX12_is ml_X12_320 st_X12_is dX12_works_40 (Nat.le_of_ble_eq_true rfl) (by omega) rfl (Nat.le_of_ble_eq_true rfl) (fun h H => mIs_V (b := true) (by omega)) ?_
    refine MV.jst C12_in34 dX12_works_43 (by rw [hm]; exact nI_pred _) (by omega) (by decide) ?_
    refine MV.iconst (v := 1) dX12_works_44 (by decide) ?_
    refine MV.zret .boolean dX12_works_45 rfl (rfl) ?_
    have hj : joinL 20 y 0 = iL (decide (y = 0)) := by simp [joinL]
    rw [hj]
    first
    | rw [show decide (y = 0) = true by simpa [lg_cmp_eq] using c32]; exact ⟨rfl, scW.w, fun _ => ⟨hm, rfl⟩⟩
    | rw [show decide (y = 0) = false by simpa [lg_cmp_eq] using c32]; exact ⟨rfl, scW.w, fun _ => ⟨hm, rfl⟩⟩
