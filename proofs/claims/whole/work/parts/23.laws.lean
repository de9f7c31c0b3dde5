/-! Laws: what a sign joins -/
theorem neg0L {x : Int64} (h : ¬ x = 0) : ¬ -x = 0 := fun q => h (by have := congrArg (fun z => -z) q; simpa using this)
def ERR : Int64 := (-9223372036854775808)
def isBin (k : Int32) : Bool := decide (k = 18) || decide (k = 19) || (decide (¬ k < 33) && decide (¬ 42 < k))
def takesN (k : Int32) : Nat := if k = 20 then 1 else if isBin k = true then 2 else 0
def iL (b : Bool) : Int64 := if b then 1 else 0
def soB (k : Int32) (x y : Int64) : Bool := if k = 33 then decide (x < y) else if k = 34 then decide (x ≤ y) else if k = 35 then decide (x = y) else if k = 36 then decide (¬ x = y) else if k = 37 then decide (y ≤ x) else decide (y < x)
def absL (x : Int64) : Int64 := if 0 ≤ x then x else -x
def prodL (x y : Int64) : Int64 := if absL x = 0 then x * y else if absL y ≤ 1000000000000 / absL x then x * y else ERR
def joinL (k : Int32) (x y : Int64) : Int64 := if k = 20 then iL (decide (x = 0)) else if k = 18 then iL (decide (¬ x = 0) || decide (¬ y = 0)) else if k = 19 then iL (decide (¬ x = 0) && decide (¬ y = 0)) else if k = 39 then x + y else if k = 40 then x - y else if k = 41 then prodL x y else if k = 42 then (if y = 0 then ERR else x / y) else iL (soB k x y)
def ownL (c : St) (i : Nat) (windy : Bool) (k num : Int32) : Int64 := if k = 11 then (cLeft c i).toInt64 else if k = 12 then (bcI (c.2.1 5 i)).toInt64 else if k = 13 then (cJunesLeft c i).toInt64 else if k = 14 then iL windy else if k = 15 then (c.2.1 3 i).toInt64 else if k = 16 then (c.2.1 4 i).toInt64 else if k = 17 then (c.1 7).toInt64 else num.toInt64
set_option maxRecDepth 100000 in
set_option maxHeartbeats 1000000 in
theorem isBin_V {d n0 : Nat} {κ : Kd} (hd : 1 ≤ d) {h : Hp} {x : Int32} : V MX6_isBinary (d, 0, 0, n0, κ) 0 0 h 0 [some (.int (x))] [] (Rd h (.int (bI (isBin x)))) := by
  refine V.iload_n dX6_isBinary_0 rfl ?_
  refine V.bipush (v := 18) dX6_isBinary_1 (by decide) ?_
  refine V.icmp_eq 24 dX6_isBinary_3 (by decide) (fun c3 => ?_) (fun c3 => ?_)
  · skip
    refine V.iconst (v := 1) dX6_isBinary_24 (by decide) ?_
    refine V.goto 29 dX6_isBinary_25 (by decide) ?_
    refine V.zret .boolean dX6_isBinary_29 rfl (rfl) ?_
    exact ⟨by simp_all [isBin, bI], rfl⟩
  · skip
    refine V.iload_n dX6_isBinary_6 rfl ?_
    refine V.bipush (v := 19) dX6_isBinary_7 (by decide) ?_
    refine V.icmp_eq 24 dX6_isBinary_9 (by decide) (fun c9 => ?_) (fun c9 => ?_)
    · skip
      refine V.iconst (v := 1) dX6_isBinary_24 (by decide) ?_
      refine V.goto 29 dX6_isBinary_25 (by decide) ?_
      refine V.zret .boolean dX6_isBinary_29 rfl (rfl) ?_
      exact ⟨by simp_all [isBin, bI], rfl⟩
    · skip
      refine V.iload_n dX6_isBinary_12 rfl ?_
      refine V.bipush (v := 33) dX6_isBinary_13 (by decide) ?_
      refine V.icmp_lt 28 dX6_isBinary_15 (by decide) (fun c15 => ?_) (fun c15 => ?_)
      · skip
        refine V.iconst (v := 0) dX6_isBinary_28 (by decide) ?_
        refine V.zret .boolean dX6_isBinary_29 rfl (rfl) ?_
        exact ⟨by simp_all [isBin, bI], rfl⟩
      · skip
        refine V.iload_n dX6_isBinary_18 rfl ?_
        refine V.bipush (v := 42) dX6_isBinary_19 (by decide) ?_
        refine V.icmp_gt 28 dX6_isBinary_21 (by decide) (fun c21 => ?_) (fun c21 => ?_)
        · skip
          refine V.iconst (v := 0) dX6_isBinary_28 (by decide) ?_
          refine V.zret .boolean dX6_isBinary_29 rfl (rfl) ?_
          exact ⟨by simp_all [isBin, bI], rfl⟩
        · skip
          refine V.iconst (v := 1) dX6_isBinary_24 (by decide) ?_
          refine V.goto 29 dX6_isBinary_25 (by decide) ?_
          refine V.zret .boolean dX6_isBinary_29 rfl (rfl) ?_
          exact ⟨by simp_all [isBin, bI], rfl⟩
set_option maxRecDepth 100000 in
set_option maxHeartbeats 1000000 in
theorem takes_V {d n0 : Nat} {κ : Kd} (hd : 2 ≤ d) {h : Hp} {x : Int32} : V MX4_takenBy (d, 0, 0, n0, κ) 0 0 h 0 [some (.int (x))] [] (Rd h (.int (nI (takesN x)))) := by
  refine V.iload_n dX4_takenBy_0 rfl ?_
  refine V.bipush (v := 20) dX4_takenBy_1 (by decide) ?_
  refine V.icmp_ne 8 dX4_takenBy_3 (by decide) (fun c3 => ?_) (fun c3 => ?_)
  · skip
    refine V.iload_n dX4_takenBy_8 rfl ?_
    refine V.cS1 yoX6_isBinary ml_X4_63 st_X6_isBinary dX4_takenBy_9 (Nat.le_of_ble_eq_true rfl) (by omega) ⟨Nat.le_refl _, Nat.le_refl _⟩ rfl (Nat.le_of_ble_eq_true rfl) (isBin_V (by omega)) (V.rdK ?_)
    refine V.if_eq 19 dX4_takenBy_12 (by decide) (fun c12 => ?_) (fun c12 => ?_)
    · skip
      refine V.iconst (v := 0) dX4_takenBy_19 (by decide) ?_
      refine V.iret dX4_takenBy_20 rfl ?_
      exact ⟨by simp_all [takesN, bI] <;> rfl, rfl⟩
    · skip
      refine V.iconst (v := 2) dX4_takenBy_15 (by decide) ?_
      refine V.goto 20 dX4_takenBy_16 (by decide) ?_
      refine V.iret dX4_takenBy_20 rfl ?_
      exact ⟨by simp_all [takesN, bI] <;> rfl, rfl⟩
  · skip
    refine V.iconst (v := 1) dX4_takenBy_6 (by decide) ?_
    refine V.iret dX4_takenBy_7 rfl ?_
    exact ⟨by simp_all [takesN, bI] <;> rfl, rfl⟩
set_option maxRecDepth 100000 in
set_option maxHeartbeats 1000000 in
theorem soB_V {d n0 : Nat} {κ : Kd} (hd : 1 ≤ d) {h : Hp} {kd : Int32} {x y : Int64} : V MX4_isSo (d, 0, 0, n0, κ) 0 0 h 0 [some (.int (kd)), some (.long (x)), none, some (.long (y)), none] [] (Rd h (.int (bI (soB kd x y)))) := by
  refine V.iload_n dX4_isSo_0 rfl ?_
  refine V.tswG [(33, 36), (34, 48), (35, 60), (36, 72), (37, 84)] 96 dX4_isSo_1 (by decide) (by decide +kernel) (fa_cons (fun cs1 => ?_) (fa_cons (fun cs1 => ?_) (fa_cons (fun cs1 => ?_) (fa_cons (fun cs1 => ?_) (fa_cons (fun cs1 => ?_) fa_nil))))) (fun co1 => ?_)
  · skip
    refine V.lload_n dX4_isSo_36 rfl ?_
    refine V.lload_n dX4_isSo_37 rfl ?_
    refine V.lcmp dX4_isSo_38 ?_
    refine V.if_ge 46 dX4_isSo_39 (by decide) (fun c39 => ?_) (fun c39 => ?_)
    · skip
      refine V.iconst (v := 0) dX4_isSo_46 (by decide) ?_
      refine V.zret .boolean dX4_isSo_47 rfl (rfl) ?_
      exact ⟨by simp_all [soB, bI, lg_cmp_lt, lg_cmp_gt, lg_cmp_le, lg_cmp_ge, lg_cmp_eq], rfl⟩
    · skip
      refine V.iconst (v := 1) dX4_isSo_42 (by decide) ?_
      refine V.goto 47 dX4_isSo_43 (by decide) ?_
      refine V.zret .boolean dX4_isSo_47 rfl (rfl) ?_
      exact ⟨by simp_all [soB, bI, lg_cmp_lt, lg_cmp_gt, lg_cmp_le, lg_cmp_ge, lg_cmp_eq], rfl⟩
  · skip
    refine V.lload_n dX4_isSo_48 rfl ?_
    refine V.lload_n dX4_isSo_49 rfl ?_
    refine V.lcmp dX4_isSo_50 ?_
    refine V.if_gt 58 dX4_isSo_51 (by decide) (fun c51 => ?_) (fun c51 => ?_)
    · skip
      refine V.iconst (v := 0) dX4_isSo_58 (by decide) ?_
      refine V.zret .boolean dX4_isSo_59 rfl (rfl) ?_
      exact ⟨by simp_all [soB, bI, lg_cmp_lt, lg_cmp_gt, lg_cmp_le, lg_cmp_ge, lg_cmp_eq], rfl⟩
    · skip
      refine V.iconst (v := 1) dX4_isSo_54 (by decide) ?_
      refine V.goto 59 dX4_isSo_55 (by decide) ?_
      refine V.zret .boolean dX4_isSo_59 rfl (rfl) ?_
      exact ⟨by simp_all [soB, bI, lg_cmp_lt, lg_cmp_gt, lg_cmp_le, lg_cmp_ge, lg_cmp_eq], rfl⟩
  · skip
    refine V.lload_n dX4_isSo_60 rfl ?_
    refine V.lload_n dX4_isSo_61 rfl ?_
    refine V.lcmp dX4_isSo_62 ?_
    refine V.if_ne 70 dX4_isSo_63 (by decide) (fun c63 => ?_) (fun c63 => ?_)
    · skip
      refine V.iconst (v := 0) dX4_isSo_70 (by decide) ?_
      refine V.zret .boolean dX4_isSo_71 rfl (rfl) ?_
      exact ⟨by simp_all [soB, bI, lg_cmp_lt, lg_cmp_gt, lg_cmp_le, lg_cmp_ge, lg_cmp_eq], rfl⟩
    · skip
      refine V.iconst (v := 1) dX4_isSo_66 (by decide) ?_
      refine V.goto 71 dX4_isSo_67 (by decide) ?_
      refine V.zret .boolean dX4_isSo_71 rfl (rfl) ?_
      exact ⟨by simp_all [soB, bI, lg_cmp_lt, lg_cmp_gt, lg_cmp_le, lg_cmp_ge, lg_cmp_eq], rfl⟩
  · skip
    refine V.lload_n dX4_isSo_72 rfl ?_
    refine V.lload_n dX4_isSo_73 rfl ?_
    refine V.lcmp dX4_isSo_74 ?_
    refine V.if_eq 82 dX4_isSo_75 (by decide) (fun c75 => ?_) (fun c75 => ?_)
    · skip
      refine V.iconst (v := 0) dX4_isSo_82 (by decide) ?_
      refine V.zret .boolean dX4_isSo_83 rfl (rfl) ?_
      exact ⟨by simp_all [soB, bI, lg_cmp_lt, lg_cmp_gt, lg_cmp_le, lg_cmp_ge, lg_cmp_eq], rfl⟩
    · skip
      refine V.iconst (v := 1) dX4_isSo_78 (by decide) ?_
      refine V.goto 83 dX4_isSo_79 (by decide) ?_
      refine V.zret .boolean dX4_isSo_83 rfl (rfl) ?_
      exact ⟨by simp_all [soB, bI, lg_cmp_lt, lg_cmp_gt, lg_cmp_le, lg_cmp_ge, lg_cmp_eq], rfl⟩
  · skip
    refine V.lload_n dX4_isSo_84 rfl ?_
    refine V.lload_n dX4_isSo_85 rfl ?_
    refine V.lcmp dX4_isSo_86 ?_
    refine V.if_lt 94 dX4_isSo_87 (by decide) (fun c87 => ?_) (fun c87 => ?_)
    · skip
      refine V.iconst (v := 0) dX4_isSo_94 (by decide) ?_
      refine V.zret .boolean dX4_isSo_95 rfl (rfl) ?_
      exact ⟨by simp_all [soB, bI, lg_cmp_lt, lg_cmp_gt, lg_cmp_le, lg_cmp_ge, lg_cmp_eq], rfl⟩
    · skip
      refine V.iconst (v := 1) dX4_isSo_90 (by decide) ?_
      refine V.goto 95 dX4_isSo_91 (by decide) ?_
      refine V.zret .boolean dX4_isSo_95 rfl (rfl) ?_
      exact ⟨by simp_all [soB, bI, lg_cmp_lt, lg_cmp_gt, lg_cmp_le, lg_cmp_ge, lg_cmp_eq], rfl⟩
  · skip
    refine V.lload_n dX4_isSo_96 rfl ?_
    refine V.lload_n dX4_isSo_97 rfl ?_
    refine V.lcmp dX4_isSo_98 ?_
    refine V.if_le 106 dX4_isSo_99 (by decide) (fun c99 => ?_) (fun c99 => ?_)
    · skip
      refine V.iconst (v := 0) dX4_isSo_106 (by decide) ?_
      refine V.zret .boolean dX4_isSo_107 rfl (rfl) ?_
      exact ⟨by simp_all [soB, bI, lg_cmp_lt, lg_cmp_gt, lg_cmp_le, lg_cmp_ge, lg_cmp_eq], rfl⟩
    · skip
      refine V.iconst (v := 1) dX4_isSo_102 (by decide) ?_
      refine V.goto 107 dX4_isSo_103 (by decide) ?_
      refine V.zret .boolean dX4_isSo_107 rfl (rfl) ?_
      exact ⟨by simp_all [soB, bI, lg_cmp_lt, lg_cmp_gt, lg_cmp_le, lg_cmp_ge, lg_cmp_eq], rfl⟩
set_option maxRecDepth 100000 in
set_option maxHeartbeats 1000000 in
theorem prodL_V {d n0 : Nat} {κ : Kd} (hd : 1 ≤ d) {h : Hp} {x y : Int64} : V MX4_product (d, 0, 0, n0, κ) 0 0 h 0 [some (.long (x)), none, some (.long (y)), none, none, none, none, none] [] (Rd h (.long (prodL x y))) := by
  refine V.lload_n dX4_product_0 rfl ?_
  refine V.lconst (v := 0) dX4_product_1 (by decide) ?_
  refine V.lcmp dX4_product_2 ?_
  refine V.if_ge 11 dX4_product_3 (by decide) (fun c3 => ?_) (fun c3 => ?_)
  · skip
    refine V.lload_n dX4_product_11 rfl ?_
    refine V.lstore dX4_product_12 (by decide) rfl ?_
    refine V.lload_n dX4_product_14 rfl ?_
    refine V.lconst (v := 0) dX4_product_15 (by decide) ?_
    refine V.lcmp dX4_product_16 ?_
    refine V.if_ge 25 dX4_product_17 (by decide) (fun c17 => ?_) (fun c17 => ?_)
    · skip
      refine V.lload_n dX4_product_25 rfl ?_
      refine V.lstore dX4_product_26 (by decide) rfl ?_
      refine V.lload dX4_product_28 rfl ?_
      refine V.lconst (v := 0) dX4_product_30 (by decide) ?_
      refine V.lcmp dX4_product_31 ?_
      refine V.if_eq 53 dX4_product_32 (by decide) (fun c32 => ?_) (fun c32 => ?_)
      · skip
        refine V.lload_n dX4_product_53 rfl ?_
        refine V.lload_n dX4_product_54 rfl ?_
        refine V.lmul dX4_product_55 ?_
        refine V.lret dX4_product_56 rfl ?_
        exact ⟨by simp_all [-Int64.not_le, -Int64.not_lt, prodL, absL, ERR, lg_cmp_lt, lg_cmp_gt, lg_cmp_le, lg_cmp_ge, lg_cmp_eq] <;> (intro q; exact absurd q (neg0L c32)), rfl⟩
      · skip
        refine V.lload dX4_product_35 rfl ?_
        refine V.ldc2 kc_X4_59 dX4_product_37 ?_
        refine V.lload dX4_product_40 rfl ?_
        refine V.ldiv dX4_product_42 (fun q => c32 (by rw [q]; simp [lg_cmp])) ?_
        refine V.lcmp dX4_product_43 ?_
        refine V.if_le 53 dX4_product_44 (by decide) (fun c44 => ?_) (fun c44 => ?_)
        · skip
          refine V.lload_n dX4_product_53 rfl ?_
          refine V.lload_n dX4_product_54 rfl ?_
          refine V.lmul dX4_product_55 ?_
          refine V.lret dX4_product_56 rfl ?_
          exact ⟨by simp_all [-Int64.not_le, -Int64.not_lt, prodL, absL, ERR, lg_cmp_lt, lg_cmp_gt, lg_cmp_le, lg_cmp_ge, lg_cmp_eq] <;> (intro q; exact absurd q (neg0L c32)), rfl⟩
        · skip
          refine V.ldc2 kc_X4_45 dX4_product_47 ?_
          refine V.goto 56 dX4_product_50 (by decide) ?_
          refine V.lret dX4_product_56 rfl ?_
          exact ⟨by simp_all [-Int64.not_le, -Int64.not_lt, prodL, absL, ERR, lg_cmp_lt, lg_cmp_gt, lg_cmp_le, lg_cmp_ge, lg_cmp_eq] <;> (intro q; exact absurd q (neg0L c32)), rfl⟩
    · skip
      refine V.lload_n dX4_product_20 rfl ?_
      refine V.lneg dX4_product_21 ?_
      refine V.goto 26 dX4_product_22 (by decide) ?_
      refine V.lstore dX4_product_26 (by decide) rfl ?_
      refine V.lload dX4_product_28 rfl ?_
      refine V.lconst (v := 0) dX4_product_30 (by decide) ?_
      refine V.lcmp dX4_product_31 ?_
      refine V.if_eq 53 dX4_product_32 (by decide) (fun c32 => ?_) (fun c32 => ?_)
      · skip
        refine V.lload_n dX4_product_53 rfl ?_
        refine V.lload_n dX4_product_54 rfl ?_
        refine V.lmul dX4_product_55 ?_
        refine V.lret dX4_product_56 rfl ?_
        exact ⟨by simp_all [-Int64.not_le, -Int64.not_lt, prodL, absL, ERR, lg_cmp_lt, lg_cmp_gt, lg_cmp_le, lg_cmp_ge, lg_cmp_eq] <;> (intro q; exact absurd q (neg0L c32)), rfl⟩
      · skip
        refine V.lload dX4_product_35 rfl ?_
        refine V.ldc2 kc_X4_59 dX4_product_37 ?_
        refine V.lload dX4_product_40 rfl ?_
        refine V.ldiv dX4_product_42 (fun q => c32 (by rw [q]; simp [lg_cmp])) ?_
        refine V.lcmp dX4_product_43 ?_
        refine V.if_le 53 dX4_product_44 (by decide) (fun c44 => ?_) (fun c44 => ?_)
        · skip
          refine V.lload_n dX4_product_53 rfl ?_
          refine V.lload_n dX4_product_54 rfl ?_
          refine V.lmul dX4_product_55 ?_
          refine V.lret dX4_product_56 rfl ?_
          exact ⟨by simp_all [-Int64.not_le, -Int64.not_lt, prodL, absL, ERR, lg_cmp_lt, lg_cmp_gt, lg_cmp_le, lg_cmp_ge, lg_cmp_eq] <;> (intro q; exact absurd q (neg0L c32)), rfl⟩
        · skip
          refine V.ldc2 kc_X4_45 dX4_product_47 ?_
          refine V.goto 56 dX4_product_50 (by decide) ?_
          refine V.lret dX4_product_56 rfl ?_
          exact ⟨by simp_all [-Int64.not_le, -Int64.not_lt, prodL, absL, ERR, lg_cmp_lt, lg_cmp_gt, lg_cmp_le, lg_cmp_ge, lg_cmp_eq] <;> (intro q; exact absurd q (neg0L c32)), rfl⟩
  · skip
    refine V.lload_n dX4_product_6 rfl ?_
    refine V.lneg dX4_product_7 ?_
    refine V.goto 12 dX4_product_8 (by decide) ?_
    refine V.lstore dX4_product_12 (by decide) rfl ?_
    refine V.lload_n dX4_product_14 rfl ?_
    refine V.lconst (v := 0) dX4_product_15 (by decide) ?_
    refine V.lcmp dX4_product_16 ?_
    refine V.if_ge 25 dX4_product_17 (by decide) (fun c17 => ?_) (fun c17 => ?_)
    · skip
      refine V.lload_n dX4_product_25 rfl ?_
      refine V.lstore dX4_product_26 (by decide) rfl ?_
      refine V.lload dX4_product_28 rfl ?_
      refine V.lconst (v := 0) dX4_product_30 (by decide) ?_
      refine V.lcmp dX4_product_31 ?_
      refine V.if_eq 53 dX4_product_32 (by decide) (fun c32 => ?_) (fun c32 => ?_)
      · skip
        refine V.lload_n dX4_product_53 rfl ?_
        refine V.lload_n dX4_product_54 rfl ?_
        refine V.lmul dX4_product_55 ?_
        refine V.lret dX4_product_56 rfl ?_
        exact ⟨by simp_all [-Int64.not_le, -Int64.not_lt, prodL, absL, ERR, lg_cmp_lt, lg_cmp_gt, lg_cmp_le, lg_cmp_ge, lg_cmp_eq] <;> (intro q; exact absurd q (neg0L c32)), rfl⟩
      · skip
        refine V.lload dX4_product_35 rfl ?_
        refine V.ldc2 kc_X4_59 dX4_product_37 ?_
        refine V.lload dX4_product_40 rfl ?_
        refine V.ldiv dX4_product_42 (fun q => c32 (by rw [q]; simp [lg_cmp])) ?_
        refine V.lcmp dX4_product_43 ?_
        refine V.if_le 53 dX4_product_44 (by decide) (fun c44 => ?_) (fun c44 => ?_)
        · skip
          refine V.lload_n dX4_product_53 rfl ?_
          refine V.lload_n dX4_product_54 rfl ?_
          refine V.lmul dX4_product_55 ?_
          refine V.lret dX4_product_56 rfl ?_
          exact ⟨by simp_all [-Int64.not_le, -Int64.not_lt, prodL, absL, ERR, lg_cmp_lt, lg_cmp_gt, lg_cmp_le, lg_cmp_ge, lg_cmp_eq] <;> (intro q; exact absurd q (neg0L c32)), rfl⟩
        · skip
          refine V.ldc2 kc_X4_45 dX4_product_47 ?_
          refine V.goto 56 dX4_product_50 (by decide) ?_
          refine V.lret dX4_product_56 rfl ?_
          exact ⟨by simp_all [-Int64.not_le, -Int64.not_lt, prodL, absL, ERR, lg_cmp_lt, lg_cmp_gt, lg_cmp_le, lg_cmp_ge, lg_cmp_eq] <;> (intro q; exact absurd q (neg0L c32)), rfl⟩
    · skip
      refine V.lload_n dX4_product_20 rfl ?_
      refine V.lneg dX4_product_21 ?_
      refine V.goto 26 dX4_product_22 (by decide) ?_
      refine V.lstore dX4_product_26 (by decide) rfl ?_
      refine V.lload dX4_product_28 rfl ?_
      refine V.lconst (v := 0) dX4_product_30 (by decide) ?_
      refine V.lcmp dX4_product_31 ?_
      refine V.if_eq 53 dX4_product_32 (by decide) (fun c32 => ?_) (fun c32 => ?_)
      · skip
        refine V.lload_n dX4_product_53 rfl ?_
        refine V.lload_n dX4_product_54 rfl ?_
        refine V.lmul dX4_product_55 ?_
        refine V.lret dX4_product_56 rfl ?_
        exact ⟨by simp_all [-Int64.not_le, -Int64.not_lt, prodL, absL, ERR, lg_cmp_lt, lg_cmp_gt, lg_cmp_le, lg_cmp_ge, lg_cmp_eq] <;> (intro q; exact absurd q (neg0L c32)), rfl⟩
      · skip
        refine V.lload dX4_product_35 rfl ?_
        refine V.ldc2 kc_X4_59 dX4_product_37 ?_
        refine V.lload dX4_product_40 rfl ?_
        refine V.ldiv dX4_product_42 (fun q => c32 (by rw [q]; simp [lg_cmp])) ?_
        refine V.lcmp dX4_product_43 ?_
        refine V.if_le 53 dX4_product_44 (by decide) (fun c44 => ?_) (fun c44 => ?_)
        · skip
          refine V.lload_n dX4_product_53 rfl ?_
          refine V.lload_n dX4_product_54 rfl ?_
          refine V.lmul dX4_product_55 ?_
          refine V.lret dX4_product_56 rfl ?_
          exact ⟨by simp_all [-Int64.not_le, -Int64.not_lt, prodL, absL, ERR, lg_cmp_lt, lg_cmp_gt, lg_cmp_le, lg_cmp_ge, lg_cmp_eq] <;> (intro q; exact absurd q (neg0L c32)), rfl⟩
        · skip
          refine V.ldc2 kc_X4_45 dX4_product_47 ?_
          refine V.goto 56 dX4_product_50 (by decide) ?_
          refine V.lret dX4_product_56 rfl ?_
          exact ⟨by simp_all [-Int64.not_le, -Int64.not_lt, prodL, absL, ERR, lg_cmp_lt, lg_cmp_gt, lg_cmp_le, lg_cmp_ge, lg_cmp_eq] <;> (intro q; exact absurd q (neg0L c32)), rfl⟩
set_option maxRecDepth 100000 in
set_option maxHeartbeats 1000000 in
theorem joinL_V {d n0 : Nat} {κ : Kd} (hd : 2 ≤ d) {h : Hp} {kd : Int32} {x y : Int64} : V MX4_joined (d, 0, 0, n0, κ) 0 0 h 0 [some (.int (kd)), some (.long (x)), none, some (.long (y)), none] [] (Rd h (.long (joinL kd x y))) := by
  refine V.iload_n dX4_joined_0 rfl ?_
  refine V.tswG [(18, 128), (19, 146), (20, 116), (39, 164), (40, 168), (41, 172), (42, 178)] 194 dX4_joined_1 (by decide) (by decide +kernel) (fa_cons (fun cs1 => ?_) (fa_cons (fun cs1 => ?_) (fa_cons (fun cs1 => ?_) (fa_cons (fun cs1 => ?_) (fa_cons (fun cs1 => ?_) (fa_cons (fun cs1 => ?_) (fa_cons (fun cs1 => ?_) fa_nil))))))) (fun co1 => ?_)
  · skip
    refine V.lload_n dX4_joined_128 rfl ?_
    refine V.lconst (v := 0) dX4_joined_129 (by decide) ?_
    refine V.lcmp dX4_joined_130 ?_
    refine V.if_ne 140 dX4_joined_131 (by decide) (fun c131 => ?_) (fun c131 => ?_)
    · skip
      refine V.lconst (v := 1) dX4_joined_140 (by decide) ?_
      refine V.goto 145 dX4_joined_141 (by decide) ?_
      refine V.lret dX4_joined_145 rfl ?_
      exact ⟨by simp_all [joinL, iL, bI, ERR, lg_cmp_lt, lg_cmp_gt, lg_cmp_le, lg_cmp_ge, lg_cmp_eq], rfl⟩
    · skip
      refine V.lload_n dX4_joined_134 rfl ?_
      refine V.lconst (v := 0) dX4_joined_135 (by decide) ?_
      refine V.lcmp dX4_joined_136 ?_
      refine V.if_eq 144 dX4_joined_137 (by decide) (fun c137 => ?_) (fun c137 => ?_)
      · skip
        refine V.lconst (v := 0) dX4_joined_144 (by decide) ?_
        refine V.lret dX4_joined_145 rfl ?_
        exact ⟨by simp_all [joinL, iL, bI, ERR, lg_cmp_lt, lg_cmp_gt, lg_cmp_le, lg_cmp_ge, lg_cmp_eq], rfl⟩
      · skip
        refine V.lconst (v := 1) dX4_joined_140 (by decide) ?_
        refine V.goto 145 dX4_joined_141 (by decide) ?_
        refine V.lret dX4_joined_145 rfl ?_
        exact ⟨by simp_all [joinL, iL, bI, ERR, lg_cmp_lt, lg_cmp_gt, lg_cmp_le, lg_cmp_ge, lg_cmp_eq], rfl⟩
  · skip
    refine V.lload_n dX4_joined_146 rfl ?_
    refine V.lconst (v := 0) dX4_joined_147 (by decide) ?_
    refine V.lcmp dX4_joined_148 ?_
    refine V.if_eq 162 dX4_joined_149 (by decide) (fun c149 => ?_) (fun c149 => ?_)
    · skip
      refine V.lconst (v := 0) dX4_joined_162 (by decide) ?_
      refine V.lret dX4_joined_163 rfl ?_
      exact ⟨by simp_all [joinL, iL, bI, ERR, lg_cmp_lt, lg_cmp_gt, lg_cmp_le, lg_cmp_ge, lg_cmp_eq], rfl⟩
    · skip
      refine V.lload_n dX4_joined_152 rfl ?_
      refine V.lconst (v := 0) dX4_joined_153 (by decide) ?_
      refine V.lcmp dX4_joined_154 ?_
      refine V.if_eq 162 dX4_joined_155 (by decide) (fun c155 => ?_) (fun c155 => ?_)
      · skip
        refine V.lconst (v := 0) dX4_joined_162 (by decide) ?_
        refine V.lret dX4_joined_163 rfl ?_
        exact ⟨by simp_all [joinL, iL, bI, ERR, lg_cmp_lt, lg_cmp_gt, lg_cmp_le, lg_cmp_ge, lg_cmp_eq], rfl⟩
      · skip
        refine V.lconst (v := 1) dX4_joined_158 (by decide) ?_
        refine V.goto 163 dX4_joined_159 (by decide) ?_
        refine V.lret dX4_joined_163 rfl ?_
        exact ⟨by simp_all [joinL, iL, bI, ERR, lg_cmp_lt, lg_cmp_gt, lg_cmp_le, lg_cmp_ge, lg_cmp_eq], rfl⟩
  · skip
    refine V.lload_n dX4_joined_116 rfl ?_
    refine V.lconst (v := 0) dX4_joined_117 (by decide) ?_
    refine V.lcmp dX4_joined_118 ?_
    refine V.if_ne 126 dX4_joined_119 (by decide) (fun c119 => ?_) (fun c119 => ?_)
    · skip
      refine V.lconst (v := 0) dX4_joined_126 (by decide) ?_
      refine V.lret dX4_joined_127 rfl ?_
      exact ⟨by simp_all [joinL, iL, bI, ERR, lg_cmp_lt, lg_cmp_gt, lg_cmp_le, lg_cmp_ge, lg_cmp_eq], rfl⟩
    · skip
      refine V.lconst (v := 1) dX4_joined_122 (by decide) ?_
      refine V.goto 127 dX4_joined_123 (by decide) ?_
      refine V.lret dX4_joined_127 rfl ?_
      exact ⟨by simp_all [joinL, iL, bI, ERR, lg_cmp_lt, lg_cmp_gt, lg_cmp_le, lg_cmp_ge, lg_cmp_eq], rfl⟩
  · skip
    refine V.lload_n dX4_joined_164 rfl ?_
    refine V.lload_n dX4_joined_165 rfl ?_
    refine V.ladd dX4_joined_166 ?_
    refine V.lret dX4_joined_167 rfl ?_
    exact ⟨by simp_all [joinL, iL, bI, ERR, lg_cmp_lt, lg_cmp_gt, lg_cmp_le, lg_cmp_ge, lg_cmp_eq], rfl⟩
  · skip
    refine V.lload_n dX4_joined_168 rfl ?_
    refine V.lload_n dX4_joined_169 rfl ?_
    refine V.lsub dX4_joined_170 ?_
    refine V.lret dX4_joined_171 rfl ?_
    exact ⟨by simp_all [joinL, iL, bI, ERR, lg_cmp_lt, lg_cmp_gt, lg_cmp_le, lg_cmp_ge, lg_cmp_eq], rfl⟩
  · skip
    refine V.lload_n dX4_joined_172 rfl ?_
    refine V.lload_n dX4_joined_173 rfl ?_
    refine V.cS2 yoX4_product ml_X4_99 st_X4_product dX4_joined_174 (Nat.le_of_ble_eq_true rfl) (by omega) ⟨Nat.le_refl _, Nat.le_refl _⟩ rfl (Nat.le_of_ble_eq_true rfl) (prodL_V (by omega)) (V.rdK ?_)
    refine V.lret dX4_joined_177 rfl ?_
    exact ⟨by simp_all [joinL, iL, bI, ERR, lg_cmp_lt, lg_cmp_gt, lg_cmp_le, lg_cmp_ge, lg_cmp_eq], rfl⟩
  · skip
    refine V.lload_n dX4_joined_178 rfl ?_
    refine V.lconst (v := 0) dX4_joined_179 (by decide) ?_
    refine V.lcmp dX4_joined_180 ?_
    refine V.if_ne 190 dX4_joined_181 (by decide) (fun c181 => ?_) (fun c181 => ?_)
    · skip
      refine V.lload_n dX4_joined_190 rfl ?_
      refine V.lload_n dX4_joined_191 rfl ?_
      refine V.ldiv dX4_joined_192 (fun q => c181 (by rw [q]; simp [lg_cmp])) ?_
      refine V.lret dX4_joined_193 rfl ?_
      exact ⟨by simp_all [joinL, iL, bI, ERR, lg_cmp_lt, lg_cmp_gt, lg_cmp_le, lg_cmp_ge, lg_cmp_eq], rfl⟩
    · skip
      refine V.ldc2 kc_X4_45 dX4_joined_184 ?_
      refine V.goto 193 dX4_joined_187 (by decide) ?_
      refine V.lret dX4_joined_193 rfl ?_
      exact ⟨by simp_all [joinL, iL, bI, ERR, lg_cmp_lt, lg_cmp_gt, lg_cmp_le, lg_cmp_ge, lg_cmp_eq], rfl⟩
  · skip
    refine V.iload_n dX4_joined_194 rfl ?_
    refine V.lload_n dX4_joined_195 rfl ?_
    refine V.lload_n dX4_joined_196 rfl ?_
    refine V.cS3 yoX4_isSo ml_X4_103 st_X4_isSo dX4_joined_197 (Nat.le_of_ble_eq_true rfl) (by omega) ⟨Nat.le_refl _, Nat.le_refl _⟩ rfl (Nat.le_of_ble_eq_true rfl) (soB_V (by omega)) (V.rdK ?_)
    refine V.if_eq 207 dX4_joined_200 (by decide) (fun c200 => ?_) (fun c200 => ?_)
    · skip
      refine V.lconst (v := 0) dX4_joined_207 (by decide) ?_
      refine V.lret dX4_joined_208 rfl ?_
      exact ⟨by simp_all [joinL, iL, bI, ERR, lg_cmp_lt, lg_cmp_gt, lg_cmp_le, lg_cmp_ge, lg_cmp_eq], rfl⟩
    · skip
      refine V.lconst (v := 1) dX4_joined_203 (by decide) ?_
      refine V.goto 208 dX4_joined_204 (by decide) ?_
      refine V.lret dX4_joined_208 rfl ?_
      exact ⟨by simp_all [joinL, iL, bI, ERR, lg_cmp_lt, lg_cmp_gt, lg_cmp_le, lg_cmp_ge, lg_cmp_eq], rfl⟩
set_option maxRecDepth 100000 in
set_option maxHeartbeats 1000000 in
theorem ownL_V {d n0 : Nat} {κ : Kd} (hd : 3 ≤ d) {h : Hp} {a b0 k i : Nat} {s c : St} {windy : Bool} (H : isR C4 h a s) (HC : isR C0 h b0 c) (hk : k < 64) (hi : i < 6) : V MX4_ownWorth (d, 0, 0, n0, κ) 0 0 h 0 [some (.ref a), some (.int (nI k)), some (.ref (b0)), some (.int (nI i)), some (.int (bI windy))] [] (Rd h (.long (ownL c i windy (s.2.1 2 k) (s.2.1 3 k)))) := by
  refine V.aload_n dX4_ownWorth_0 rfl ?_
  refine V.getf okX4 2 fl_X4_9 dX4_ownWorth_1 (by decide) H.1 rfl ?_
  refine V.iload_n dX4_ownWorth_4 rfl ?_
  refine V.ialdN dX4_ownWorth_5 (C4_r2 H) (rfl) (by omega) (by decide) ?_
  refine V.tswG [(11, 48), (12, 55), (13, 66), (14, 76), (15, 87), (16, 95), (17, 103)] 109 dX4_ownWorth_6 (by decide) (by decide +kernel) (fa_cons (fun cs6 => ?_) (fa_cons (fun cs6 => ?_) (fa_cons (fun cs6 => ?_) (fa_cons (fun cs6 => ?_) (fa_cons (fun cs6 => ?_) (fa_cons (fun cs6 => ?_) (fa_cons (fun cs6 => ?_) fa_nil))))))) (fun co6 => ?_)
  · skip
    refine V.aload_n dX4_ownWorth_48 rfl ?_
    refine V.iload_n dX4_ownWorth_49 rfl ?_
    refine V.cV1 (ci := 0) yoX0_leftOf ml_X4_68 im_X0_leftOf se_X0_leftOf dX4_ownWorth_50 rfl HC.1 (Nat.le_of_ble_eq_true rfl) (by omega) ⟨Nat.le_refl _, Nat.le_refl _⟩ rfl (Nat.le_of_ble_eq_true rfl) (leftOf_V (by omega) HC hi) (V.rdK ?_)
    refine V.i2l dX4_ownWorth_53 ?_
    refine V.lret dX4_ownWorth_54 rfl ?_
    exact ⟨by cases windy <;> simp_all [ownL, iL, bI, cJunesLeft], rfl⟩
  · skip
    refine V.aload_n dX4_ownWorth_55 rfl ?_
    refine V.getf okX0 5 fl_X4_73 dX4_ownWorth_56 (by decide) HC.1 rfl ?_
    refine V.iload_n dX4_ownWorth_59 rfl ?_
    refine V.ialdN dX4_ownWorth_60 (C0_r5 HC) (rfl) (by omega) (by decide) ?_
    refine V.cS1 yoJ6_bitCount_0f7a4 ml_X4_76 st_J6_bitCount_0f7a4 dX4_ownWorth_61 (Nat.le_of_ble_eq_true rfl) (by omega) ⟨Nat.le_refl _, Nat.le_refl _⟩ rfl (Nat.le_of_ble_eq_true rfl) (bitCountI_V (by omega)) (V.rdK ?_)
    refine V.i2l dX4_ownWorth_64 ?_
    refine V.lret dX4_ownWorth_65 rfl ?_
    exact ⟨by cases windy <;> simp_all [ownL, iL, bI, cJunesLeft], rfl⟩
  · skip
    refine V.aload_n dX4_ownWorth_66 rfl ?_
    refine V.iload_n dX4_ownWorth_67 rfl ?_
    refine V.cV1 (ci := 0) yoX0_junesIn ml_X4_81 im_X0_junesIn se_X0_junesIn dX4_ownWorth_68 rfl HC.1 (Nat.le_of_ble_eq_true rfl) (by omega) ⟨Nat.le_refl _, Nat.le_refl _⟩ rfl (Nat.le_of_ble_eq_true rfl) (junesIn_V (by omega) HC hi) (V.rdK ?_)
    refine V.cS1 yoJ13_bitCount_95d88 ml_X4_85 st_J13_bitCount_95d88 dX4_ownWorth_71 (Nat.le_of_ble_eq_true rfl) (by omega) ⟨Nat.le_refl _, Nat.le_refl _⟩ rfl (Nat.le_of_ble_eq_true rfl) (bitCountL_V (by omega)) (V.rdK ?_)
    refine V.i2l dX4_ownWorth_74 ?_
    refine V.lret dX4_ownWorth_75 rfl ?_
    exact ⟨by cases windy <;> simp_all [ownL, iL, bI, cJunesLeft], rfl⟩
  · skip
    refine V.iload dX4_ownWorth_76 rfl ?_
    refine V.if_eq 85 dX4_ownWorth_78 (by decide) (fun c78 => ?_) (fun c78 => ?_)
    · skip
      refine V.lconst (v := 0) dX4_ownWorth_85 (by decide) ?_
      refine V.lret dX4_ownWorth_86 rfl ?_
      exact ⟨by cases windy <;> simp_all [ownL, iL, bI, cJunesLeft], rfl⟩
    · skip
      refine V.lconst (v := 1) dX4_ownWorth_81 (by decide) ?_
      refine V.goto 86 dX4_ownWorth_82 (by decide) ?_
      refine V.lret dX4_ownWorth_86 rfl ?_
      exact ⟨by cases windy <;> simp_all [ownL, iL, bI, cJunesLeft], rfl⟩
  · skip
    refine V.aload_n dX4_ownWorth_87 rfl ?_
    refine V.getf okX0 3 fl_X4_90 dX4_ownWorth_88 (by decide) HC.1 rfl ?_
    refine V.iload_n dX4_ownWorth_91 rfl ?_
    refine V.ialdN dX4_ownWorth_92 (C0_r3 HC) (rfl) (by omega) (by decide) ?_
    refine V.i2l dX4_ownWorth_93 ?_
    refine V.lret dX4_ownWorth_94 rfl ?_
    exact ⟨by cases windy <;> simp_all [ownL, iL, bI, cJunesLeft], rfl⟩
  · skip
    refine V.aload_n dX4_ownWorth_95 rfl ?_
    refine V.getf okX0 4 fl_X4_93 dX4_ownWorth_96 (by decide) HC.1 rfl ?_
    refine V.iload_n dX4_ownWorth_99 rfl ?_
    refine V.ialdN dX4_ownWorth_100 (C0_r4 HC) (rfl) (by omega) (by decide) ?_
    refine V.i2l dX4_ownWorth_101 ?_
    refine V.lret dX4_ownWorth_102 rfl ?_
    exact ⟨by cases windy <;> simp_all [ownL, iL, bI, cJunesLeft], rfl⟩
  · skip
    refine V.aload_n dX4_ownWorth_103 rfl ?_
    refine V.getf okX0 7 fl_X4_96 dX4_ownWorth_104 (by decide) HC.1 rfl ?_
    refine V.i2l dX4_ownWorth_107 ?_
    refine V.lret dX4_ownWorth_108 rfl ?_
    exact ⟨by cases windy <;> simp_all [ownL, iL, bI, cJunesLeft], rfl⟩
  · skip
    refine V.aload_n dX4_ownWorth_109 rfl ?_
    refine V.getf okX4 3 fl_X4_15 dX4_ownWorth_110 (by decide) H.1 rfl ?_
    refine V.iload_n dX4_ownWorth_113 rfl ?_
    refine V.ialdN dX4_ownWorth_114 (C4_r3 H) (rfl) (by omega) (by decide) ?_
    refine V.i2l dX4_ownWorth_115 ?_
    refine V.lret dX4_ownWorth_116 rfl ?_
    exact ⟨by cases windy <;> simp_all [ownL, iL, bI, cJunesLeft], rfl⟩
