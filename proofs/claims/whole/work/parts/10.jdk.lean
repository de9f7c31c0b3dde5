/-! the JDK's own: bit counts, fill -/
def usI (x : Int32) (k : Int32) : Int32 := (x.toUInt32 >>> (k.toUInt32 &&& Int32.toUInt32 31)).toInt32
def usL (x : Int64) (k : Int32) : Int64 := (x.toUInt64 >>> (k.toInt64.toUInt64 &&& Int64.toUInt64 63)).toInt64
def bcI1 (x : Int32) : Int32 := x - (usI x 1 &&& 1431655765)
def bcI2 (x : Int32) : Int32 := (x &&& 858993459) + (usI x 2 &&& 858993459)
def bcI3 (x : Int32) : Int32 := (x + usI x 4) &&& 252645135
def bcI4 (x : Int32) : Int32 := x + usI x 8
def bcI5 (x : Int32) : Int32 := x + usI x 16
def bcI (x : Int32) : Int32 := bcI5 (bcI4 (bcI3 (bcI2 (bcI1 x)))) &&& 63
def bcL1 (x : Int64) : Int64 := x - (usL x 1 &&& 6148914691236517205)
def bcL2 (x : Int64) : Int64 := (x &&& 3689348814741910323) + (usL x 2 &&& 3689348814741910323)
def bcL3 (x : Int64) : Int64 := (x + usL x 4) &&& 1085102592571150095
def bcL4 (x : Int64) : Int64 := x + usL x 8
def bcL5 (x : Int64) : Int64 := x + usL x 16
def bcL6 (x : Int64) : Int64 := x + usL x 32
def bcL (x : Int64) : Int32 := (bcL6 (bcL5 (bcL4 (bcL3 (bcL2 (bcL1 x)))))).toInt32 &&& 127
set_option maxRecDepth 100000 in
set_option maxHeartbeats 1000000 in
theorem bitCountI_V {d n0 : Nat} {κ : Kd} (hd : 1 ≤ d) {h : Hp} {x : Int32} : V MJ6_bitCount_0f7a4 (d, 0, 0, n0, κ) 0 0 h 0 [some (.int x)] [] (Rd h (.int (bcI x))) := by
  refine V.iload_n dJ6_bitCount_0f7a4_0 rfl ?_
  refine V.iload_n dJ6_bitCount_0f7a4_1 rfl ?_
  refine V.iconst (v := 1) dJ6_bitCount_0f7a4_2 (by decide) ?_
  refine V.iushr dJ6_bitCount_0f7a4_3 ?_
  refine V.ldcw kc_J6_265 dJ6_bitCount_0f7a4_4 ?_
  refine V.iand dJ6_bitCount_0f7a4_7 ?_
  refine V.isub dJ6_bitCount_0f7a4_8 ?_
  refine V.istore_n dJ6_bitCount_0f7a4_9 (by decide) rfl ?_
  refine V.iload_n dJ6_bitCount_0f7a4_10 rfl ?_
  refine V.ldcw kc_J6_266 dJ6_bitCount_0f7a4_11 ?_
  refine V.iand dJ6_bitCount_0f7a4_14 ?_
  refine V.iload_n dJ6_bitCount_0f7a4_15 rfl ?_
  refine V.iconst (v := 2) dJ6_bitCount_0f7a4_16 (by decide) ?_
  refine V.iushr dJ6_bitCount_0f7a4_17 ?_
  refine V.ldcw kc_J6_266 dJ6_bitCount_0f7a4_18 ?_
  refine V.iand dJ6_bitCount_0f7a4_21 ?_
  refine V.iadd dJ6_bitCount_0f7a4_22 ?_
  refine V.istore_n dJ6_bitCount_0f7a4_23 (by decide) rfl ?_
  refine V.iload_n dJ6_bitCount_0f7a4_24 rfl ?_
  refine V.iload_n dJ6_bitCount_0f7a4_25 rfl ?_
  refine V.iconst (v := 4) dJ6_bitCount_0f7a4_26 (by decide) ?_
  refine V.iushr dJ6_bitCount_0f7a4_27 ?_
  refine V.iadd dJ6_bitCount_0f7a4_28 ?_
  refine V.ldcw kc_J6_267 dJ6_bitCount_0f7a4_29 ?_
  refine V.iand dJ6_bitCount_0f7a4_32 ?_
  refine V.istore_n dJ6_bitCount_0f7a4_33 (by decide) rfl ?_
  refine V.iload_n dJ6_bitCount_0f7a4_34 rfl ?_
  refine V.iload_n dJ6_bitCount_0f7a4_35 rfl ?_
  refine V.bipush (v := 8) dJ6_bitCount_0f7a4_36 (by decide) ?_
  refine V.iushr dJ6_bitCount_0f7a4_38 ?_
  refine V.iadd dJ6_bitCount_0f7a4_39 ?_
  refine V.istore_n dJ6_bitCount_0f7a4_40 (by decide) rfl ?_
  refine V.iload_n dJ6_bitCount_0f7a4_41 rfl ?_
  refine V.iload_n dJ6_bitCount_0f7a4_42 rfl ?_
  refine V.bipush (v := 16) dJ6_bitCount_0f7a4_43 (by decide) ?_
  refine V.iushr dJ6_bitCount_0f7a4_45 ?_
  refine V.iadd dJ6_bitCount_0f7a4_46 ?_
  refine V.istore_n dJ6_bitCount_0f7a4_47 (by decide) rfl ?_
  refine V.iload_n dJ6_bitCount_0f7a4_48 rfl ?_
  refine V.bipush (v := 63) dJ6_bitCount_0f7a4_49 (by decide) ?_
  refine V.iand dJ6_bitCount_0f7a4_51 ?_
  refine V.iret dJ6_bitCount_0f7a4_52 rfl ?_
  exact ⟨rfl, rfl⟩
set_option maxRecDepth 100000 in
set_option maxHeartbeats 1000000 in
theorem bitCountL_V {d n0 : Nat} {κ : Kd} (hd : 1 ≤ d) {h : Hp} {x : Int64} : V MJ13_bitCount_95d88 (d, 0, 0, n0, κ) 0 0 h 0 [some (.long x), none] [] (Rd h (.int (bcL x))) := by
  refine V.lload_n dJ13_bitCount_95d88_0 rfl ?_
  refine V.lload_n dJ13_bitCount_95d88_1 rfl ?_
  refine V.iconst (v := 1) dJ13_bitCount_95d88_2 (by decide) ?_
  refine V.lushr dJ13_bitCount_95d88_3 ?_
  refine V.ldc2 kc_J13_314 dJ13_bitCount_95d88_4 ?_
  refine V.land dJ13_bitCount_95d88_7 ?_
  refine V.lsub dJ13_bitCount_95d88_8 ?_
  refine V.lstore_n dJ13_bitCount_95d88_9 (by decide) rfl ?_
  refine V.lload_n dJ13_bitCount_95d88_10 rfl ?_
  refine V.ldc2 kc_J13_316 dJ13_bitCount_95d88_11 ?_
  refine V.land dJ13_bitCount_95d88_14 ?_
  refine V.lload_n dJ13_bitCount_95d88_15 rfl ?_
  refine V.iconst (v := 2) dJ13_bitCount_95d88_16 (by decide) ?_
  refine V.lushr dJ13_bitCount_95d88_17 ?_
  refine V.ldc2 kc_J13_316 dJ13_bitCount_95d88_18 ?_
  refine V.land dJ13_bitCount_95d88_21 ?_
  refine V.ladd dJ13_bitCount_95d88_22 ?_
  refine V.lstore_n dJ13_bitCount_95d88_23 (by decide) rfl ?_
  refine V.lload_n dJ13_bitCount_95d88_24 rfl ?_
  refine V.lload_n dJ13_bitCount_95d88_25 rfl ?_
  refine V.iconst (v := 4) dJ13_bitCount_95d88_26 (by decide) ?_
  refine V.lushr dJ13_bitCount_95d88_27 ?_
  refine V.ladd dJ13_bitCount_95d88_28 ?_
  refine V.ldc2 kc_J13_318 dJ13_bitCount_95d88_29 ?_
  refine V.land dJ13_bitCount_95d88_32 ?_
  refine V.lstore_n dJ13_bitCount_95d88_33 (by decide) rfl ?_
  refine V.lload_n dJ13_bitCount_95d88_34 rfl ?_
  refine V.lload_n dJ13_bitCount_95d88_35 rfl ?_
  refine V.bipush (v := 8) dJ13_bitCount_95d88_36 (by decide) ?_
  refine V.lushr dJ13_bitCount_95d88_38 ?_
  refine V.ladd dJ13_bitCount_95d88_39 ?_
  refine V.lstore_n dJ13_bitCount_95d88_40 (by decide) rfl ?_
  refine V.lload_n dJ13_bitCount_95d88_41 rfl ?_
  refine V.lload_n dJ13_bitCount_95d88_42 rfl ?_
  refine V.bipush (v := 16) dJ13_bitCount_95d88_43 (by decide) ?_
  refine V.lushr dJ13_bitCount_95d88_45 ?_
  refine V.ladd dJ13_bitCount_95d88_46 ?_
  refine V.lstore_n dJ13_bitCount_95d88_47 (by decide) rfl ?_
  refine V.lload_n dJ13_bitCount_95d88_48 rfl ?_
  refine V.lload_n dJ13_bitCount_95d88_49 rfl ?_
  refine V.bipush (v := 32) dJ13_bitCount_95d88_50 (by decide) ?_
  refine V.lushr dJ13_bitCount_95d88_52 ?_
  refine V.ladd dJ13_bitCount_95d88_53 ?_
  refine V.lstore_n dJ13_bitCount_95d88_54 (by decide) rfl ?_
  refine V.lload_n dJ13_bitCount_95d88_55 rfl ?_
  refine V.l2i dJ13_bitCount_95d88_56 ?_
  refine V.bipush (v := 127) dJ13_bitCount_95d88_57 (by decide) ?_
  refine V.iand dJ13_bitCount_95d88_59 ?_
  refine V.iret dJ13_bitCount_95d88_60 rfl ?_
  exact ⟨rfl, rfl⟩
set_option maxRecDepth 100000 in
set_option maxHeartbeats 1000000 in
theorem fillI_V {d n0 : Nat} {κ : Kd} (hd : 1 ≤ d) {h : Hp} {b n : Nat} {f : Nat → Int32} {v : Int32} (hn : n < 2147483648) (ha : h b = some (.inl (0, n, .inl f))) : V MJ7_fill_53178 (d, 0, 0, n0, κ) 0 0 h 0 [some (.ref b), some (.int v), none, none] [] (fun r h' => r = none ∧ h' b = some (.inl (0, n, .inl (fun _ => v))) ∧ ∀ x : Nat, x ≠ b → h' x = h x) := by
  refine V.iconst (v := nI 0) dJ7_fill_53178_0 (by decide) ?_
  refine V.istore_n dJ7_fill_53178_1 (by decide) rfl ?_
  refine V.aload_n dJ7_fill_53178_2 rfl ?_
  refine V.alen (v := nI n) dJ7_fill_53178_3 ha (by decide) rfl ?_
  refine V.istore_n dJ7_fill_53178_4 (by decide) rfl ?_
  suffices hL : ∀ (k i : Nat) (h2 : Hp) (f2 : Nat → Int32), i + k = n → h2 b = some (.inl (0, n, .inl f2)) → (∀ j, j < i → f2 j = v) → (∀ x : Nat, x ≠ b → h2 x = h x) → V MJ7_fill_53178 (d, 0, 0, n0, κ) 0 0 h2 5 [some (.ref b), some (.int v), some (.int (nI i)), some (.int (nI n))] [] (fun r h' => r = none ∧ h' b = some (.inl (0, n, .inl (fun _ => v))) ∧ ∀ x : Nat, x ≠ b → h' x = h x) from hL n 0 h f (by omega) ha (fun j hj => absurd hj (Nat.not_lt_zero _)) (fun _ _ => rfl)
  intro k
  induction k with
  | zero =>
    intro i h2 f2 hik hb hf ho
    have hin : i = n := by omega
    subst hin
    refine V.iload_n dJ7_fill_53178_5 rfl ?_
    refine V.iload_n dJ7_fill_53178_6 rfl ?_
    refine V.icmp_ge 20 dJ7_fill_53178_7 (by decide) (fun _ => ?_) (fun z => absurd (nI_le (Nat.le_refl _) hn) z)
    refine V.rowI (fun _ => v) hb hf (fun h3 e3 o3 => ?_)
    exact V.vret dJ7_fill_53178_20 rfl ⟨rfl, e3, fun x hx => (o3 x hx).trans (ho x hx)⟩
  | succ k ih =>
    intro i h2 f2 hik hb hf ho
    refine V.iload_n dJ7_fill_53178_5 rfl ?_
    refine V.iload_n dJ7_fill_53178_6 rfl ?_
    refine V.icmp_ge 20 dJ7_fill_53178_7 (by decide) (fun z => absurd z (nI_ge (by omega) hn)) (fun _ => ?_)
    refine V.aload_n dJ7_fill_53178_10 rfl ?_
    refine V.iload_n dJ7_fill_53178_11 rfl ?_
    refine V.iload_n dJ7_fill_53178_12 rfl ?_
    refine V.iastH dJ7_fill_53178_13 hb rfl (by omega) hn (fun h3 e3 o3 => ?_)
    refine V.iinc (v := 1) dJ7_fill_53178_14 rfl (by decide) (by decide) rfl ?_
    refine V.goto 5 dJ7_fill_53178_17 (by decide) ?_
    refine V.weak [some (.ref b), some (.int v), some (.int (nI (i + 1))), some (.int (nI n))] (by simp [leL, sto1, sto2, k2c, nI_1]) ?_
    exact ih (i + 1) h3 _ (by omega) e3 (fun j hj => by
      by_cases hji : j = i
      · simp [upd, hji]
      · simp only [upd, if_neg hji]
        exact hf j (by omega)) (fun x hx => (o3 x hx).trans (ho x hx))
set_option maxRecDepth 100000 in
set_option maxHeartbeats 1000000 in
theorem fillJ_V {d n0 : Nat} {κ : Kd} (hd : 1 ≤ d) {h : Hp} {b n : Nat} {f : Nat → Int64} {v : Int64} (hn : n < 2147483648) (ha : h b = some (.inl (1, n, .inr (.inl f)))) : V MJ7_fill_d0a16 (d, 0, 0, n0, κ) 0 0 h 0 [some (.ref b), some (.long v), none, none, none] [] (fun r h' => r = none ∧ h' b = some (.inl (1, n, .inr (.inl (fun _ => v)))) ∧ ∀ x : Nat, x ≠ b → h' x = h x) := by
  refine V.iconst (v := nI 0) dJ7_fill_d0a16_0 (by decide) ?_
  refine V.istore_n dJ7_fill_d0a16_1 (by decide) rfl ?_
  refine V.aload_n dJ7_fill_d0a16_2 rfl ?_
  refine V.alen (v := nI n) dJ7_fill_d0a16_3 ha (by decide) rfl ?_
  refine V.istore dJ7_fill_d0a16_4 (by decide) rfl ?_
  suffices hL : ∀ (k i : Nat) (h2 : Hp) (f2 : Nat → Int64), i + k = n → h2 b = some (.inl (1, n, .inr (.inl f2))) → (∀ j, j < i → f2 j = v) → (∀ x : Nat, x ≠ b → h2 x = h x) → V MJ7_fill_d0a16 (d, 0, 0, n0, κ) 0 0 h2 6 [some (.ref b), some (.long v), none, some (.int (nI i)), some (.int (nI n))] [] (fun r h' => r = none ∧ h' b = some (.inl (1, n, .inr (.inl (fun _ => v)))) ∧ ∀ x : Nat, x ≠ b → h' x = h x) from hL n 0 h f (by omega) ha (fun j hj => absurd hj (Nat.not_lt_zero _)) (fun _ _ => rfl)
  intro k
  induction k with
  | zero =>
    intro i h2 f2 hik hb hf ho
    have hin : i = n := by omega
    subst hin
    refine V.iload_n dJ7_fill_d0a16_6 rfl ?_
    refine V.iload dJ7_fill_d0a16_7 rfl ?_
    refine V.icmp_ge 22 dJ7_fill_d0a16_9 (by decide) (fun _ => ?_) (fun z => absurd (nI_le (Nat.le_refl _) hn) z)
    refine V.rowJ (fun _ => v) hb hf (fun h3 e3 o3 => ?_)
    exact V.vret dJ7_fill_d0a16_22 rfl ⟨rfl, e3, fun x hx => (o3 x hx).trans (ho x hx)⟩
  | succ k ih =>
    intro i h2 f2 hik hb hf ho
    refine V.iload_n dJ7_fill_d0a16_6 rfl ?_
    refine V.iload dJ7_fill_d0a16_7 rfl ?_
    refine V.icmp_ge 22 dJ7_fill_d0a16_9 (by decide) (fun z => absurd z (nI_ge (by omega) hn)) (fun _ => ?_)
    refine V.aload_n dJ7_fill_d0a16_12 rfl ?_
    refine V.iload_n dJ7_fill_d0a16_13 rfl ?_
    refine V.lload_n dJ7_fill_d0a16_14 rfl ?_
    refine V.lastH dJ7_fill_d0a16_15 hb rfl (by omega) hn (fun h3 e3 o3 => ?_)
    refine V.iinc (v := 1) dJ7_fill_d0a16_16 rfl (by decide) (by decide) rfl ?_
    refine V.goto 6 dJ7_fill_d0a16_19 (by decide) ?_
    refine V.weak [some (.ref b), some (.long v), none, some (.int (nI (i + 1))), some (.int (nI n))] (by simp [leL, sto1, sto2, k2c, nI_1]) ?_
    exact ih (i + 1) h3 _ (by omega) e3 (fun j hj => by
      by_cases hji : j = i
      · simp [vp_updL, hji]
      · simp only [vp_updL, if_neg hji]
        exact hf j (by omega)) (fun x hx => (o3 x hx).trans (ho x hx))
