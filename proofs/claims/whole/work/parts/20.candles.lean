/-! Candles -/
def cLeft (s : St) (i : Nat) : Int32 := s.2.1 1 i - s.2.1 3 i - s.2.1 4 i
def cIsLeft (s : St) (i : Nat) (x : Int32) : Bool := decide (¬ x < s.2.1 3 i) && decide (¬ s.2.1 1 i - s.2.1 4 i ≤ x)
def litB (v e : Int32) : Bool := decide (¬ (v >>> (e &&& 31)) &&& 1 = 0)
def cLitB (s : St) (i : Nat) (e : Int32) : Bool := litB (s.2.1 5 i) e
def bitM (k : Nat) : Int32 := (1 : Int32) <<< (nI k &&& 31)
def cJunesIn (s : St) (i : Nat) : Int64 := (s.2.2.1 2 i &&& ((1 : Int64) <<< ((s.2.1 1 i - s.2.1 4 i).toInt64 &&& 63) - 1)) &&& (((1 : Int64) <<< ((s.2.1 3 i).toInt64 &&& 63) - 1) ^^^ (-1))
def cJunesLeft (s : St) (i : Nat) : Int32 := bcL (cJunesIn s i)
def cMin (x y : Int32) : Int32 := if y < x then y else x
def cLight (s : St) (i : Nat) (e : Int32) : St := (s.1, uA s.2.1 5 i (s.2.1 5 i ||| (1 <<< (e &&& 31))), s.2.2)
def cBlow (s : St) (i : Nat) (e : Int32) : St := (s.1, uA s.2.1 5 i (s.2.1 5 i &&& ((1 <<< (e &&& 31)) ^^^ (-1))), s.2.2)
def cIdle (s : St) : St := (upd s.1 9 (s.1 9 + 1), s.2.1, s.2.2.1, s.2.2.2)
def cCan (s : St) (i : Nat) (e : Int32) : Bool := !cLitB s i e && decide (¬ cLeft s i ≤ 0)
def cLightOrIdle (s : St) (i : Nat) (e : Int32) : St := if cCan s i e = true then cLight s i e else cIdle s
def cBlowOrIdle (s : St) (i : Nat) (e : Int32) : St := if cLitB s i e = true then cBlow s i e else cIdle s
def cShort0 (s : St) (i : Nat) (e by_ : Int32) : St := if e = 0 then (s.1, uA s.2.1 3 i (s.2.1 3 i + cMin by_ (cLeft s i)), s.2.2) else (s.1, uA s.2.1 4 i (s.2.1 4 i + cMin by_ (cLeft s i)), s.2.2)
def cOut0 (s : St) (i : Nat) : St := if cLeft s i = 0 then (s.1, uA s.2.1 5 i 0, s.2.2) else s
def cShorten (s : St) (i : Nat) (e by_ : Int32) : St := cOut0 (cShort0 s i e by_) i
def litM (f : Nat → Int32) : Nat → Int32
  | 0 => 0
  | k + 1 => litM f k ||| (if f k = 0 then 0 else bitM k)
def outM (f : Nat → Int32) : Nat → Int32
  | 0 => 0
  | k + 1 => outM f k ||| (if f k = 0 then bitM k else 0)
def sumI (f : Nat → Int32) : Nat → Int32
  | 0 => 0
  | k + 1 => sumI f k + f k
set_option maxRecDepth 100000 in
set_option maxHeartbeats 1000000 in
theorem leftOf_V {d n0 : Nat} {κ : Kd} (hd : 1 ≤ d) {h : Hp} {a i : Nat} {s : St} (H : isR C0 h a s) (hi : i < 6) : V MX0_leftOf (d, 0, 0, n0, κ) 0 0 h 0 [some (.ref a), some (.int (nI i))] [] (Rd h (.int (cLeft s i))) := by
  refine V.aload_n dX0_leftOf_0 rfl ?_
  refine V.getf okX0 1 fl_X0_9 dX0_leftOf_1 (by decide) H.1 rfl ?_
  refine V.iload_n dX0_leftOf_4 rfl ?_
  refine V.ialdN dX0_leftOf_5 (C0_r1 H) (rfl) (by omega) (by decide) ?_
  refine V.aload_n dX0_leftOf_6 rfl ?_
  refine V.getf okX0 3 fl_X0_19 dX0_leftOf_7 (by decide) H.1 rfl ?_
  refine V.iload_n dX0_leftOf_10 rfl ?_
  refine V.ialdN dX0_leftOf_11 (C0_r3 H) (rfl) (by omega) (by decide) ?_
  refine V.isub dX0_leftOf_12 ?_
  refine V.aload_n dX0_leftOf_13 rfl ?_
  refine V.getf okX0 4 fl_X0_22 dX0_leftOf_14 (by decide) H.1 rfl ?_
  refine V.iload_n dX0_leftOf_17 rfl ?_
  refine V.ialdN dX0_leftOf_18 (C0_r4 H) (rfl) (by omega) (by decide) ?_
  refine V.isub dX0_leftOf_19 ?_
  refine V.iret dX0_leftOf_20 rfl ?_
  exact ⟨rfl, rfl⟩
set_option maxRecDepth 100000 in
set_option maxHeartbeats 1000000 in
theorem isLeft_V {d n0 : Nat} {κ : Kd} (hd : 1 ≤ d) {h : Hp} {a i : Nat} {s : St} (H : isR C0 h a s) (hi : i < 6) {x : Int32} : V MX0_isLeft (d, 0, 0, n0, κ) 0 0 h 0 [some (.ref a), some (.int (nI i)), some (.int (x))] [] (Rd h (.int (bI (cIsLeft s i x)))) := by
  refine V.iload_n dX0_isLeft_0 rfl ?_
  refine V.aload_n dX0_isLeft_1 rfl ?_
  refine V.getf okX0 3 fl_X0_19 dX0_isLeft_2 (by decide) H.1 rfl ?_
  refine V.iload_n dX0_isLeft_5 rfl ?_
  refine V.ialdN dX0_isLeft_6 (C0_r3 H) (rfl) (by omega) (by decide) ?_
  refine V.icmp_lt 31 dX0_isLeft_7 (by decide) (fun c7 => ?_) (fun c7 => ?_)
  · skip
    refine V.iconst (v := 0) dX0_isLeft_31 (by decide) ?_
    refine V.zret .boolean dX0_isLeft_32 rfl (rfl) ?_
    exact ⟨by simp_all [cIsLeft, bI], rfl⟩
  · skip
    refine V.iload_n dX0_isLeft_10 rfl ?_
    refine V.aload_n dX0_isLeft_11 rfl ?_
    refine V.getf okX0 1 fl_X0_9 dX0_isLeft_12 (by decide) H.1 rfl ?_
    refine V.iload_n dX0_isLeft_15 rfl ?_
    refine V.ialdN dX0_isLeft_16 (C0_r1 H) (rfl) (by omega) (by decide) ?_
    refine V.aload_n dX0_isLeft_17 rfl ?_
    refine V.getf okX0 4 fl_X0_22 dX0_isLeft_18 (by decide) H.1 rfl ?_
    refine V.iload_n dX0_isLeft_21 rfl ?_
    refine V.ialdN dX0_isLeft_22 (C0_r4 H) (rfl) (by omega) (by decide) ?_
    refine V.isub dX0_isLeft_23 ?_
    refine V.icmp_ge 31 dX0_isLeft_24 (by decide) (fun c24 => ?_) (fun c24 => ?_)
    · skip
      refine V.iconst (v := 0) dX0_isLeft_31 (by decide) ?_
      refine V.zret .boolean dX0_isLeft_32 rfl (rfl) ?_
      exact ⟨by simp_all [cIsLeft, bI], rfl⟩
    · skip
      refine V.iconst (v := 1) dX0_isLeft_27 (by decide) ?_
      refine V.goto 32 dX0_isLeft_28 (by decide) ?_
      refine V.zret .boolean dX0_isLeft_32 rfl (rfl) ?_
      exact ⟨by simp_all [cIsLeft, bI], rfl⟩
set_option maxRecDepth 100000 in
set_option maxHeartbeats 1000000 in
theorem isLit_V {d n0 : Nat} {κ : Kd} (hd : 1 ≤ d) {h : Hp} {a i : Nat} {s : St} (H : isR C0 h a s) (hi : i < 6) {e : Int32} : V MX0_isLit (d, 0, 0, n0, κ) 0 0 h 0 [some (.ref a), some (.int (nI i)), some (.int (e))] [] (Rd h (.int (bI (cLitB s i e)))) := by
  refine V.aload_n dX0_isLit_0 rfl ?_
  refine V.getf okX0 5 fl_X0_25 dX0_isLit_1 (by decide) H.1 rfl ?_
  refine V.iload_n dX0_isLit_4 rfl ?_
  refine V.ialdN dX0_isLit_5 (C0_r5 H) (rfl) (by omega) (by decide) ?_
  refine V.iload_n dX0_isLit_6 rfl ?_
  refine V.ishr dX0_isLit_7 ?_
  refine V.iconst (v := 1) dX0_isLit_8 (by decide) ?_
  refine V.iand dX0_isLit_9 ?_
  refine V.if_eq 17 dX0_isLit_10 (by decide) (fun c10 => ?_) (fun c10 => ?_)
  · skip
    refine V.iconst (v := 0) dX0_isLit_17 (by decide) ?_
    refine V.zret .boolean dX0_isLit_18 rfl (rfl) ?_
    exact ⟨by simp_all [cLitB, litB, bI], rfl⟩
  · skip
    refine V.iconst (v := 1) dX0_isLit_13 (by decide) ?_
    refine V.goto 18 dX0_isLit_14 (by decide) ?_
    refine V.zret .boolean dX0_isLit_18 rfl (rfl) ?_
    exact ⟨by simp_all [cLitB, litB, bI], rfl⟩
set_option maxRecDepth 100000 in
set_option maxHeartbeats 1000000 in
theorem canBeLit_V {d n0 : Nat} {κ : Kd} (hd : 2 ≤ d) {h : Hp} {a i : Nat} {s : St} (H : isR C0 h a s) (hi : i < 6) {e : Int32} : V MX0_canBeLit (d, 0, 0, n0, κ) 0 0 h 0 [some (.ref a), some (.int (nI i)), some (.int (e))] [] (Rd h (.int (bI (cCan s i e)))) := by
  refine V.aload_n dX0_canBeLit_0 rfl ?_
  refine V.iload_n dX0_canBeLit_1 rfl ?_
  refine V.iload_n dX0_canBeLit_2 rfl ?_
  refine V.cV2 (ci := 0) yoX0_isLit ml_X0_79 im_X0_isLit se_X0_isLit dX0_canBeLit_3 rfl H.1 (Nat.le_of_ble_eq_true rfl) (by omega) ⟨Nat.le_refl _, Nat.le_refl _⟩ rfl (Nat.le_of_ble_eq_true rfl) (isLit_V (by omega) H hi) (V.rdK ?_)
  refine V.if_ne 21 dX0_canBeLit_6 (by decide) (fun c6 => ?_) (fun c6 => ?_)
  · skip
    refine V.iconst (v := 0) dX0_canBeLit_21 (by decide) ?_
    refine V.zret .boolean dX0_canBeLit_22 rfl (rfl) ?_
    exact ⟨by simp_all [cCan, bI], rfl⟩
  · skip
    refine V.aload_n dX0_canBeLit_9 rfl ?_
    refine V.iload_n dX0_canBeLit_10 rfl ?_
    refine V.cV1 (ci := 0) yoX0_leftOf ml_X0_83 im_X0_leftOf se_X0_leftOf dX0_canBeLit_11 rfl H.1 (Nat.le_of_ble_eq_true rfl) (by omega) ⟨Nat.le_refl _, Nat.le_refl _⟩ rfl (Nat.le_of_ble_eq_true rfl) (leftOf_V (by omega) H hi) (V.rdK ?_)
    refine V.if_le 21 dX0_canBeLit_14 (by decide) (fun c14 => ?_) (fun c14 => ?_)
    · skip
      refine V.iconst (v := 0) dX0_canBeLit_21 (by decide) ?_
      refine V.zret .boolean dX0_canBeLit_22 rfl (rfl) ?_
      exact ⟨by simp_all [cCan, bI], rfl⟩
    · skip
      refine V.iconst (v := 1) dX0_canBeLit_17 (by decide) ?_
      refine V.goto 22 dX0_canBeLit_18 (by decide) ?_
      refine V.zret .boolean dX0_canBeLit_22 rfl (rfl) ?_
      exact ⟨by simp_all [cCan, bI], rfl⟩
set_option maxRecDepth 100000 in
set_option maxHeartbeats 1000000 in
theorem junesIn_V {d n0 : Nat} {κ : Kd} (hd : 1 ≤ d) {h : Hp} {a i : Nat} {s : St} (H : isR C0 h a s) (hi : i < 6) : V MX0_junesIn (d, 0, 0, n0, κ) 0 0 h 0 [some (.ref a), some (.int (nI i)), none, none, none, none] [] (Rd h (.long (cJunesIn s i))) := by
  refine V.lconst (v := 1) dX0_junesIn_0 (by decide) ?_
  refine V.aload_n dX0_junesIn_1 rfl ?_
  refine V.getf okX0 3 fl_X0_19 dX0_junesIn_2 (by decide) H.1 rfl ?_
  refine V.iload_n dX0_junesIn_5 rfl ?_
  refine V.ialdN dX0_junesIn_6 (C0_r3 H) (rfl) (by omega) (by decide) ?_
  refine V.lshl dX0_junesIn_7 ?_
  refine V.lconst (v := 1) dX0_junesIn_8 (by decide) ?_
  refine V.lsub dX0_junesIn_9 ?_
  refine V.lstore_n dX0_junesIn_10 (by decide) rfl ?_
  refine V.lconst (v := 1) dX0_junesIn_11 (by decide) ?_
  refine V.aload_n dX0_junesIn_12 rfl ?_
  refine V.getf okX0 1 fl_X0_9 dX0_junesIn_13 (by decide) H.1 rfl ?_
  refine V.iload_n dX0_junesIn_16 rfl ?_
  refine V.ialdN dX0_junesIn_17 (C0_r1 H) (rfl) (by omega) (by decide) ?_
  refine V.aload_n dX0_junesIn_18 rfl ?_
  refine V.getf okX0 4 fl_X0_22 dX0_junesIn_19 (by decide) H.1 rfl ?_
  refine V.iload_n dX0_junesIn_22 rfl ?_
  refine V.ialdN dX0_junesIn_23 (C0_r4 H) (rfl) (by omega) (by decide) ?_
  refine V.isub dX0_junesIn_24 ?_
  refine V.lshl dX0_junesIn_25 ?_
  refine V.lconst (v := 1) dX0_junesIn_26 (by decide) ?_
  refine V.lsub dX0_junesIn_27 ?_
  refine V.lstore dX0_junesIn_28 (by decide) rfl ?_
  refine V.aload_n dX0_junesIn_30 rfl ?_
  refine V.getf okX0 2 fl_X0_15 dX0_junesIn_31 (by decide) H.1 rfl ?_
  refine V.iload_n dX0_junesIn_34 rfl ?_
  refine V.laldN dX0_junesIn_35 (C0_r2 H) (rfl) (by omega) (by decide) ?_
  refine V.lload dX0_junesIn_36 rfl ?_
  refine V.land dX0_junesIn_38 ?_
  refine V.lload_n dX0_junesIn_39 rfl ?_
  refine V.ldc2 kc_X0_67 dX0_junesIn_40 ?_
  refine V.lxor dX0_junesIn_43 ?_
  refine V.land dX0_junesIn_44 ?_
  refine V.lret dX0_junesIn_45 rfl ?_
  exact ⟨rfl, rfl⟩
set_option maxRecDepth 100000 in
set_option maxHeartbeats 1000000 in
theorem junesLeft_V {d n0 : Nat} {κ : Kd} (hd : 2 ≤ d) {h : Hp} {a i : Nat} {s : St} (H : isR C0 h a s) (hi : i < 6) : V MX0_junesLeft (d, 0, 0, n0, κ) 0 0 h 0 [some (.ref a), some (.int (nI i))] [] (Rd h (.int (cJunesLeft s i))) := by
  refine V.aload_n dX0_junesLeft_0 rfl ?_
  refine V.iload_n dX0_junesLeft_1 rfl ?_
  refine V.cV1 (ci := 0) yoX0_junesIn ml_X0_69 im_X0_junesIn se_X0_junesIn dX0_junesLeft_2 rfl H.1 (Nat.le_of_ble_eq_true rfl) (by omega) ⟨Nat.le_refl _, Nat.le_refl _⟩ rfl (Nat.le_of_ble_eq_true rfl) (junesIn_V (by omega) H hi) (V.rdK ?_)
  refine V.cS1 yoJ13_bitCount_95d88 ml_X0_73 st_J13_bitCount_95d88 dX0_junesLeft_5 (Nat.le_of_ble_eq_true rfl) (by omega) ⟨Nat.le_refl _, Nat.le_refl _⟩ rfl (Nat.le_of_ble_eq_true rfl) (bitCountL_V (by omega)) (V.rdK ?_)
  refine V.iret dX0_junesLeft_8 rfl ?_
  exact ⟨rfl, rfl⟩
set_option maxRecDepth 100000 in
set_option maxHeartbeats 1000000 in
theorem lightOrIdle_V {d n0 : Nat} {κ : Kd} (hd : 3 ≤ d) {h : Hp} {a i : Nat} {s : St} (H : isR C0 h a s) (hi : i < 6) {e : Int32} : V MX0_lightOrIdle (d, 0, 0, n0, κ) 0 0 h 0 [some (.ref a), some (.int (nI i)), some (.int (e))] [] (fun v h' => v = none ∧ isR C0 h' a (cLightOrIdle s i e) ∧ ∀ b : Nat, (b < a ∨ a + 7 ≤ b) → h' b = h b) := by
  have hfr : ∀ b : Nat, (b < a ∨ a + 7 ≤ b) → h b = h b := fun _ _ => rfl
  refine V.aload_n dX0_lightOrIdle_0 rfl ?_
  refine V.iload_n dX0_lightOrIdle_1 rfl ?_
  refine V.iload_n dX0_lightOrIdle_2 rfl ?_
  refine V.cV2 (ci := 0) yoX0_canBeLit ml_X0_87 im_X0_canBeLit se_X0_canBeLit dX0_lightOrIdle_3 rfl H.1 (Nat.le_of_ble_eq_true rfl) (by omega) ⟨Nat.le_refl _, Nat.le_refl _⟩ rfl (Nat.le_of_ble_eq_true rfl) (canBeLit_V (by omega) H hi) (V.rdK ?_)
  refine V.if_eq 24 dX0_lightOrIdle_6 (by decide) (fun c6 => ?_) (fun c6 => ?_)
  · skip
    refine V.aload_n dX0_lightOrIdle_24 rfl ?_
    refine V.dup dX0_lightOrIdle_25 rfl ?_
    refine V.getf okX0 9 fl_X0_58 dX0_lightOrIdle_26 (by decide) H.1 rfl ?_
    refine V.iconst (v := 1) dX0_lightOrIdle_29 (by decide) ?_
    refine V.iadd dX0_lightOrIdle_30 ?_
    refine V.putfH okX0 9 fl_X0_58 dX0_lightOrIdle_31 (by decide) rfl H.1 (rfl) (rfl) (Nat.le_of_ble_eq_true rfl) (fun h1 eh1 oh1 => ?_)
    have H := isR.setI C0_ok H 9 _ (fun _ _ => rfl) eh1 oh1
    have hfr : ∀ b : Nat, (b < a ∨ a + 7 ≤ b) → h1 b = h b := fun b hb => (oh1 b (by omega)).trans (hfr b hb)
    refine V.vret dX0_lightOrIdle_34 rfl ?_
    exact ⟨rfl, by first | (rw [cLightOrIdle, if_pos (bI_t c6)]; exact H) | (rw [cLightOrIdle, if_neg (by rw [bI_f c6]; decide)]; exact H), hfr⟩
  · skip
    refine V.aload_n dX0_lightOrIdle_9 rfl ?_
    refine V.getf okX0 5 fl_X0_25 dX0_lightOrIdle_10 (by decide) H.1 rfl ?_
    refine V.iload_n dX0_lightOrIdle_13 rfl ?_
    refine V.dup2 dX0_lightOrIdle_14 rfl rfl ?_
    refine V.ialdN dX0_lightOrIdle_15 (C0_r5 H) (rfl) (by omega) (by decide) ?_
    refine V.iconst (v := 1) dX0_lightOrIdle_16 (by decide) ?_
    refine V.iload_n dX0_lightOrIdle_17 rfl ?_
    refine V.ishl dX0_lightOrIdle_18 ?_
    refine V.ior dX0_lightOrIdle_19 ?_
    refine V.iastH dX0_lightOrIdle_20 (C0_r5 H) (rfl) (by omega) (by decide) (fun h2 eh2 oh2 => ?_)
    have H := isR.setA C0_ok H C0_in5 (by decide) _ _ eh2 oh2
    have hfr : ∀ b : Nat, (b < a ∨ a + 7 ≤ b) → h2 b = h b := fun b hb => (oh2 b (by omega)).trans (hfr b hb)
    refine V.goto 34 dX0_lightOrIdle_21 (by decide) ?_
    refine V.vret dX0_lightOrIdle_34 rfl ?_
    exact ⟨rfl, by first | (rw [cLightOrIdle, if_pos (bI_t c6)]; exact H) | (rw [cLightOrIdle, if_neg (by rw [bI_f c6]; decide)]; exact H), hfr⟩
set_option maxRecDepth 100000 in
set_option maxHeartbeats 1000000 in
theorem blowOrIdle_V {d n0 : Nat} {κ : Kd} (hd : 2 ≤ d) {h : Hp} {a i : Nat} {s : St} (H : isR C0 h a s) (hi : i < 6) {e : Int32} : V MX0_blowOrIdle (d, 0, 0, n0, κ) 0 0 h 0 [some (.ref a), some (.int (nI i)), some (.int (e))] [] (fun v h' => v = none ∧ isR C0 h' a (cBlowOrIdle s i e) ∧ ∀ b : Nat, (b < a ∨ a + 7 ≤ b) → h' b = h b) := by
  have hfr : ∀ b : Nat, (b < a ∨ a + 7 ≤ b) → h b = h b := fun _ _ => rfl
  refine V.aload_n dX0_blowOrIdle_0 rfl ?_
  refine V.iload_n dX0_blowOrIdle_1 rfl ?_
  refine V.iload_n dX0_blowOrIdle_2 rfl ?_
  refine V.cV2 (ci := 0) yoX0_isLit ml_X0_79 im_X0_isLit se_X0_isLit dX0_blowOrIdle_3 rfl H.1 (Nat.le_of_ble_eq_true rfl) (by omega) ⟨Nat.le_refl _, Nat.le_refl _⟩ rfl (Nat.le_of_ble_eq_true rfl) (isLit_V (by omega) H hi) (V.rdK ?_)
  refine V.if_eq 26 dX0_blowOrIdle_6 (by decide) (fun c6 => ?_) (fun c6 => ?_)
  · skip
    refine V.aload_n dX0_blowOrIdle_26 rfl ?_
    refine V.dup dX0_blowOrIdle_27 rfl ?_
    refine V.getf okX0 9 fl_X0_58 dX0_blowOrIdle_28 (by decide) H.1 rfl ?_
    refine V.iconst (v := 1) dX0_blowOrIdle_31 (by decide) ?_
    refine V.iadd dX0_blowOrIdle_32 ?_
    refine V.putfH okX0 9 fl_X0_58 dX0_blowOrIdle_33 (by decide) rfl H.1 (rfl) (rfl) (Nat.le_of_ble_eq_true rfl) (fun h1 eh1 oh1 => ?_)
    have H := isR.setI C0_ok H 9 _ (fun _ _ => rfl) eh1 oh1
    have hfr : ∀ b : Nat, (b < a ∨ a + 7 ≤ b) → h1 b = h b := fun b hb => (oh1 b (by omega)).trans (hfr b hb)
    refine V.vret dX0_blowOrIdle_36 rfl ?_
    exact ⟨rfl, by first | (rw [cBlowOrIdle, if_pos (bI_t c6)]; exact H) | (rw [cBlowOrIdle, if_neg (by rw [bI_f c6]; decide)]; exact H), hfr⟩
  · skip
    refine V.aload_n dX0_blowOrIdle_9 rfl ?_
    refine V.getf okX0 5 fl_X0_25 dX0_blowOrIdle_10 (by decide) H.1 rfl ?_
    refine V.iload_n dX0_blowOrIdle_13 rfl ?_
    refine V.dup2 dX0_blowOrIdle_14 rfl rfl ?_
    refine V.ialdN dX0_blowOrIdle_15 (C0_r5 H) (rfl) (by omega) (by decide) ?_
    refine V.iconst (v := 1) dX0_blowOrIdle_16 (by decide) ?_
    refine V.iload_n dX0_blowOrIdle_17 rfl ?_
    refine V.ishl dX0_blowOrIdle_18 ?_
    refine V.iconst (v := (-1)) dX0_blowOrIdle_19 (by decide) ?_
    refine V.ixor dX0_blowOrIdle_20 ?_
    refine V.iand dX0_blowOrIdle_21 ?_
    refine V.iastH dX0_blowOrIdle_22 (C0_r5 H) (rfl) (by omega) (by decide) (fun h2 eh2 oh2 => ?_)
    have H := isR.setA C0_ok H C0_in5 (by decide) _ _ eh2 oh2
    have hfr : ∀ b : Nat, (b < a ∨ a + 7 ≤ b) → h2 b = h b := fun b hb => (oh2 b (by omega)).trans (hfr b hb)
    refine V.goto 36 dX0_blowOrIdle_23 (by decide) ?_
    refine V.vret dX0_blowOrIdle_36 rfl ?_
    exact ⟨rfl, by first | (rw [cBlowOrIdle, if_pos (bI_t c6)]; exact H) | (rw [cBlowOrIdle, if_neg (by rw [bI_f c6]; decide)]; exact H), hfr⟩
set_option maxRecDepth 100000 in
set_option maxHeartbeats 1000000 in
theorem shorten_V {d n0 : Nat} {κ : Kd} (hd : 2 ≤ d) {h : Hp} {a i : Nat} {s : St} (H : isR C0 h a s) (hi : i < 6) {e by_ : Int32} : V MX0_shorten (d, 0, 0, n0, κ) 0 0 h 0 [some (.ref a), some (.int (nI i)), some (.int (e)), some (.int (by_)), none] [] (fun v h' => v = none ∧ isR C0 h' a (cShorten s i e by_) ∧ ∀ b : Nat, (b < a ∨ a + 7 ≤ b) → h' b = h b) := by
  have hfr : ∀ b : Nat, (b < a ∨ a + 7 ≤ b) → h b = h b := fun _ _ => rfl
  refine V.iload_n dX0_shorten_0 rfl ?_
  refine V.aload_n dX0_shorten_1 rfl ?_
  refine V.iload_n dX0_shorten_2 rfl ?_
  refine V.cV1 (ci := 0) yoX0_leftOf ml_X0_83 im_X0_leftOf se_X0_leftOf dX0_shorten_3 rfl H.1 (Nat.le_of_ble_eq_true rfl) (by omega) ⟨Nat.le_refl _, Nat.le_refl _⟩ rfl (Nat.le_of_ble_eq_true rfl) (leftOf_V (by omega) H hi) (V.rdK ?_)
  refine V.mmin ml_X0_90 st_J9_min_7cf53 ini_J9 co_J9_min_7cf53 dX0_shorten_6 (by omega) (Nat.le_of_ble_eq_true rfl) ⟨Nat.le_refl _, Nat.le_refl _⟩ ?_
  refine V.istore dX0_shorten_9 (by decide) rfl ?_
  refine V.iload_n dX0_shorten_11 rfl ?_
  refine V.if_ne 29 dX0_shorten_12 (by decide) (fun c12 => ?_) (fun c12 => ?_)
  · skip
    refine V.aload_n dX0_shorten_29 rfl ?_
    refine V.getf okX0 4 fl_X0_22 dX0_shorten_30 (by decide) H.1 rfl ?_
    refine V.iload_n dX0_shorten_33 rfl ?_
    refine V.dup2 dX0_shorten_34 rfl rfl ?_
    refine V.ialdN dX0_shorten_35 (C0_r4 H) (rfl) (by omega) (by decide) ?_
    refine V.iload dX0_shorten_36 rfl ?_
    refine V.iadd dX0_shorten_38 ?_
    refine V.iastH dX0_shorten_39 (C0_r4 H) (rfl) (by omega) (by decide) (fun h1 eh1 oh1 => ?_)
    have H := isR.setA C0_ok H C0_in4 (by decide) _ _ eh1 oh1
    have hfr : ∀ b : Nat, (b < a ∨ a + 7 ≤ b) → h1 b = h b := fun b hb => (oh1 b (by omega)).trans (hfr b hb)
    refine V.aload_n dX0_shorten_40 rfl ?_
    refine V.iload_n dX0_shorten_41 rfl ?_
    refine V.cV1 (ci := 0) yoX0_leftOf ml_X0_83 im_X0_leftOf se_X0_leftOf dX0_shorten_42 rfl H.1 (Nat.le_of_ble_eq_true rfl) (by omega) ⟨Nat.le_refl _, Nat.le_refl _⟩ rfl (Nat.le_of_ble_eq_true rfl) (leftOf_V (by omega) H hi) (V.rdK ?_)
    refine V.if_ne 55 dX0_shorten_45 (by decide) (fun c45 => ?_) (fun c45 => ?_)
    · skip
      refine V.vret dX0_shorten_55 rfl ?_
      exact ⟨rfl, by rw [cShorten, cShort0]; first | rw [if_pos c12] | rw [if_neg c12]
                     unfold cOut0 cMin; first | rw [if_pos c45] | rw [if_neg c45]
                     exact H, hfr⟩
    · skip
      refine V.aload_n dX0_shorten_48 rfl ?_
      refine V.getf okX0 5 fl_X0_25 dX0_shorten_49 (by decide) H.1 rfl ?_
      refine V.iload_n dX0_shorten_52 rfl ?_
      refine V.iconst (v := 0) dX0_shorten_53 (by decide) ?_
      refine V.iastH dX0_shorten_54 (C0_r5 H) (rfl) (by omega) (by decide) (fun h2 eh2 oh2 => ?_)
      have H := isR.setA C0_ok H C0_in5 (by decide) _ _ eh2 oh2
      have hfr : ∀ b : Nat, (b < a ∨ a + 7 ≤ b) → h2 b = h b := fun b hb => (oh2 b (by omega)).trans (hfr b hb)
      refine V.vret dX0_shorten_55 rfl ?_
      exact ⟨rfl, by rw [cShorten, cShort0]; first | rw [if_pos c12] | rw [if_neg c12]
                     unfold cOut0 cMin; first | rw [if_pos c45] | rw [if_neg c45]
                     exact H, hfr⟩
  · skip
    refine V.aload_n dX0_shorten_15 rfl ?_
    refine V.getf okX0 3 fl_X0_19 dX0_shorten_16 (by decide) H.1 rfl ?_
    refine V.iload_n dX0_shorten_19 rfl ?_
    refine V.dup2 dX0_shorten_20 rfl rfl ?_
    refine V.ialdN dX0_shorten_21 (C0_r3 H) (rfl) (by omega) (by decide) ?_
    refine V.iload dX0_shorten_22 rfl ?_
    refine V.iadd dX0_shorten_24 ?_
    refine V.iastH dX0_shorten_25 (C0_r3 H) (rfl) (by omega) (by decide) (fun h3 eh3 oh3 => ?_)
    have H := isR.setA C0_ok H C0_in3 (by decide) _ _ eh3 oh3
    have hfr : ∀ b : Nat, (b < a ∨ a + 7 ≤ b) → h3 b = h b := fun b hb => (oh3 b (by omega)).trans (hfr b hb)
    refine V.goto 40 dX0_shorten_26 (by decide) ?_
    refine V.aload_n dX0_shorten_40 rfl ?_
    refine V.iload_n dX0_shorten_41 rfl ?_
    refine V.cV1 (ci := 0) yoX0_leftOf ml_X0_83 im_X0_leftOf se_X0_leftOf dX0_shorten_42 rfl H.1 (Nat.le_of_ble_eq_true rfl) (by omega) ⟨Nat.le_refl _, Nat.le_refl _⟩ rfl (Nat.le_of_ble_eq_true rfl) (leftOf_V (by omega) H hi) (V.rdK ?_)
    refine V.if_ne 55 dX0_shorten_45 (by decide) (fun c45 => ?_) (fun c45 => ?_)
    · skip
      refine V.vret dX0_shorten_55 rfl ?_
      exact ⟨rfl, by rw [cShorten, cShort0]; first | rw [if_pos c12] | rw [if_neg c12]
                     unfold cOut0 cMin; first | rw [if_pos c45] | rw [if_neg c45]
                     exact H, hfr⟩
    · skip
      refine V.aload_n dX0_shorten_48 rfl ?_
      refine V.getf okX0 5 fl_X0_25 dX0_shorten_49 (by decide) H.1 rfl ?_
      refine V.iload_n dX0_shorten_52 rfl ?_
      refine V.iconst (v := 0) dX0_shorten_53 (by decide) ?_
      refine V.iastH dX0_shorten_54 (C0_r5 H) (rfl) (by omega) (by decide) (fun h4 eh4 oh4 => ?_)
      have H := isR.setA C0_ok H C0_in5 (by decide) _ _ eh4 oh4
      have hfr : ∀ b : Nat, (b < a ∨ a + 7 ≤ b) → h4 b = h b := fun b hb => (oh4 b (by omega)).trans (hfr b hb)
      refine V.vret dX0_shorten_55 rfl ?_
      exact ⟨rfl, by rw [cShorten, cShort0]; first | rw [if_pos c12] | rw [if_neg c12]
                     unfold cOut0 cMin; first | rw [if_pos c45] | rw [if_neg c45]
                     exact H, hfr⟩
set_option maxRecDepth 100000 in
set_option maxHeartbeats 1000000 in
theorem litMen_V {d n0 : Nat} {κ : Kd} (hd : 1 ≤ d) {h : Hp} {a n : Nat} {s : St} (H : isR C0 h a s) (hp : s.1 0 = nI n) (hn : n ≤ 6) : V MX0_litMen (d, 0, 0, n0, κ) 0 0 h 0 [some (.ref a), none, none] [] (Rd h (.int (litM (s.2.1 5) n))) := by
  refine V.iconst (v := 0) dX0_litMen_0 (by decide) ?_
  refine V.istore_n dX0_litMen_1 (by decide) rfl ?_
  refine V.iconst (v := nI 0) dX0_litMen_2 (by decide) ?_
  refine V.istore_n dX0_litMen_3 (by decide) rfl ?_
  suffices hL : ∀ (k i : Nat), i + k = n → V MX0_litMen (d, 0, 0, n0, κ) 0 0 h 4 [some (.ref a), some (.int (litM (s.2.1 5) i)), some (.int (nI i))] [] (Rd h (.int (litM (s.2.1 5) n))) from hL (n) 0 (by omega)
  intro k
  induction k with
  | zero =>
    intro i hik
    have hin : i = n := by omega
    subst hin
    refine V.iload_n dX0_litMen_4 rfl ?_
    refine V.aload_n dX0_litMen_5 rfl ?_
    refine V.getf okX0 0 fl_X0_37 dX0_litMen_6 (by decide) H.1 rfl ?_
    refine V.icmp_ge 37 dX0_litMen_9 (by decide) (fun _ => ?_) (fun z => absurd (by rw [hp]; exact nI_le (Nat.le_refl _) (by omega)) z)
    refine V.iload_n dX0_litMen_37 rfl ?_
    refine V.iret dX0_litMen_38 rfl ?_
    exact ⟨rfl, rfl⟩
  | succ k ih =>
    intro i hik
    refine V.iload_n dX0_litMen_4 rfl ?_
    refine V.aload_n dX0_litMen_5 rfl ?_
    refine V.getf okX0 0 fl_X0_37 dX0_litMen_6 (by decide) H.1 rfl ?_
    refine V.icmp_ge 37 dX0_litMen_9 (by decide) (fun z => absurd z (by rw [hp]; exact nI_ge (by omega) (by omega))) (fun _ => ?_)
    refine V.iload_n dX0_litMen_12 rfl ?_
    refine V.aload_n dX0_litMen_13 rfl ?_
    refine V.getf okX0 5 fl_X0_25 dX0_litMen_14 (by decide) H.1 rfl ?_
    refine V.iload_n dX0_litMen_17 rfl ?_
    refine V.ialdN dX0_litMen_18 (C0_r5 H) (rfl) (by omega) (by decide) ?_
    refine V.if_ne 26 dX0_litMen_19 (by decide) (fun c19 => ?_) (fun c19 => ?_)
    · skip
      refine V.iconst (v := 1) dX0_litMen_26 (by decide) ?_
      refine V.iload_n dX0_litMen_27 rfl ?_
      refine V.ishl dX0_litMen_28 ?_
      refine V.ior dX0_litMen_29 ?_
      refine V.istore_n dX0_litMen_30 (by decide) rfl ?_
      refine V.iinc (v := 1) dX0_litMen_31 rfl (by decide) (by decide) rfl ?_
      refine V.goto 4 dX0_litMen_34 (by decide) ?_
      refine V.weak [some (.ref a), some (.int (litM (s.2.1 5) (i + 1))), some (.int (nI (i + 1)))] (by simp [leL, sto1, sto2, k2c, nI_1, litM, bitM, *]) ?_
      exact ih (i + 1) (by omega)
    · skip
      refine V.iconst (v := 0) dX0_litMen_22 (by decide) ?_
      refine V.goto 29 dX0_litMen_23 (by decide) ?_
      refine V.ior dX0_litMen_29 ?_
      refine V.istore_n dX0_litMen_30 (by decide) rfl ?_
      refine V.iinc (v := 1) dX0_litMen_31 rfl (by decide) (by decide) rfl ?_
      refine V.goto 4 dX0_litMen_34 (by decide) ?_
      refine V.weak [some (.ref a), some (.int (litM (s.2.1 5) (i + 1))), some (.int (nI (i + 1)))] (by simp [leL, sto1, sto2, k2c, nI_1, litM, bitM, *]) ?_
      exact ih (i + 1) (by omega)
set_option maxRecDepth 100000 in
set_option maxHeartbeats 1000000 in
theorem outMen_V {d n0 : Nat} {κ : Kd} (hd : 2 ≤ d) {h : Hp} {a n : Nat} {s : St} (H : isR C0 h a s) (hp : s.1 0 = nI n) (hn : n ≤ 6) : V MX0_outMen (d, 0, 0, n0, κ) 0 0 h 0 [some (.ref a), none, none] [] (Rd h (.int (outM (cLeft s) n))) := by
  refine V.iconst (v := 0) dX0_outMen_0 (by decide) ?_
  refine V.istore_n dX0_outMen_1 (by decide) rfl ?_
  refine V.iconst (v := nI 0) dX0_outMen_2 (by decide) ?_
  refine V.istore_n dX0_outMen_3 (by decide) rfl ?_
  suffices hL : ∀ (k i : Nat), i + k = n → V MX0_outMen (d, 0, 0, n0, κ) 0 0 h 4 [some (.ref a), some (.int (outM (cLeft s) i)), some (.int (nI i))] [] (Rd h (.int (outM (cLeft s) n))) from hL (n) 0 (by omega)
  intro k
  induction k with
  | zero =>
    intro i hik
    have hin : i = n := by omega
    subst hin
    refine V.iload_n dX0_outMen_4 rfl ?_
    refine V.aload_n dX0_outMen_5 rfl ?_
    refine V.getf okX0 0 fl_X0_37 dX0_outMen_6 (by decide) H.1 rfl ?_
    refine V.icmp_ge 36 dX0_outMen_9 (by decide) (fun _ => ?_) (fun z => absurd (by rw [hp]; exact nI_le (Nat.le_refl _) (by omega)) z)
    refine V.iload_n dX0_outMen_36 rfl ?_
    refine V.iret dX0_outMen_37 rfl ?_
    exact ⟨rfl, rfl⟩
  | succ k ih =>
    intro i hik
    refine V.iload_n dX0_outMen_4 rfl ?_
    refine V.aload_n dX0_outMen_5 rfl ?_
    refine V.getf okX0 0 fl_X0_37 dX0_outMen_6 (by decide) H.1 rfl ?_
    refine V.icmp_ge 36 dX0_outMen_9 (by decide) (fun z => absurd z (by rw [hp]; exact nI_ge (by omega) (by omega))) (fun _ => ?_)
    refine V.iload_n dX0_outMen_12 rfl ?_
    refine V.aload_n dX0_outMen_13 rfl ?_
    refine V.iload_n dX0_outMen_14 rfl ?_
    refine V.cV1 (ci := 0) yoX0_leftOf ml_X0_83 im_X0_leftOf se_X0_leftOf dX0_outMen_15 rfl H.1 (Nat.le_of_ble_eq_true rfl) (by omega) ⟨Nat.le_refl _, Nat.le_refl _⟩ rfl (Nat.le_of_ble_eq_true rfl) (leftOf_V (by omega) H (by omega)) (V.rdK ?_)
    refine V.if_ne 27 dX0_outMen_18 (by decide) (fun c18 => ?_) (fun c18 => ?_)
    · skip
      refine V.iconst (v := 0) dX0_outMen_27 (by decide) ?_
      refine V.ior dX0_outMen_28 ?_
      refine V.istore_n dX0_outMen_29 (by decide) rfl ?_
      refine V.iinc (v := 1) dX0_outMen_30 rfl (by decide) (by decide) rfl ?_
      refine V.goto 4 dX0_outMen_33 (by decide) ?_
      refine V.weak [some (.ref a), some (.int (outM (cLeft s) (i + 1))), some (.int (nI (i + 1)))] (by simp [leL, sto1, sto2, k2c, nI_1, outM, bitM, *]) ?_
      exact ih (i + 1) (by omega)
    · skip
      refine V.iconst (v := 1) dX0_outMen_21 (by decide) ?_
      refine V.iload_n dX0_outMen_22 rfl ?_
      refine V.ishl dX0_outMen_23 ?_
      refine V.goto 28 dX0_outMen_24 (by decide) ?_
      refine V.ior dX0_outMen_28 ?_
      refine V.istore_n dX0_outMen_29 (by decide) rfl ?_
      refine V.iinc (v := 1) dX0_outMen_30 rfl (by decide) (by decide) rfl ?_
      refine V.goto 4 dX0_outMen_33 (by decide) ?_
      refine V.weak [some (.ref a), some (.int (outM (cLeft s) (i + 1))), some (.int (nI (i + 1)))] (by simp [leL, sto1, sto2, k2c, nI_1, outM, bitM, *]) ?_
      exact ih (i + 1) (by omega)
set_option maxRecDepth 100000 in
set_option maxHeartbeats 1000000 in
theorem howManyLit_V {d n0 : Nat} {κ : Kd} (hd : 2 ≤ d) {h : Hp} {a n : Nat} {s : St} (H : isR C0 h a s) (hp : s.1 0 = nI n) (hn : n ≤ 6) : V MX0_howManyLit (d, 0, 0, n0, κ) 0 0 h 0 [some (.ref a), none, none] [] (Rd h (.int (sumI (fun p => bcI (s.2.1 5 p)) n))) := by
  refine V.iconst (v := 0) dX0_howManyLit_0 (by decide) ?_
  refine V.istore_n dX0_howManyLit_1 (by decide) rfl ?_
  refine V.iconst (v := nI 0) dX0_howManyLit_2 (by decide) ?_
  refine V.istore_n dX0_howManyLit_3 (by decide) rfl ?_
  suffices hL : ∀ (k i : Nat), i + k = n → V MX0_howManyLit (d, 0, 0, n0, κ) 0 0 h 4 [some (.ref a), some (.int (sumI (fun p => bcI (s.2.1 5 p)) i)), some (.int (nI i))] [] (Rd h (.int (sumI (fun p => bcI (s.2.1 5 p)) n))) from hL (n) 0 (by omega)
  intro k
  induction k with
  | zero =>
    intro i hik
    have hin : i = n := by omega
    subst hin
    refine V.iload_n dX0_howManyLit_4 rfl ?_
    refine V.aload_n dX0_howManyLit_5 rfl ?_
    refine V.getf okX0 0 fl_X0_37 dX0_howManyLit_6 (by decide) H.1 rfl ?_
    refine V.icmp_ge 30 dX0_howManyLit_9 (by decide) (fun _ => ?_) (fun z => absurd (by rw [hp]; exact nI_le (Nat.le_refl _) (by omega)) z)
    refine V.iload_n dX0_howManyLit_30 rfl ?_
    refine V.iret dX0_howManyLit_31 rfl ?_
    exact ⟨rfl, rfl⟩
  | succ k ih =>
    intro i hik
    refine V.iload_n dX0_howManyLit_4 rfl ?_
    refine V.aload_n dX0_howManyLit_5 rfl ?_
    refine V.getf okX0 0 fl_X0_37 dX0_howManyLit_6 (by decide) H.1 rfl ?_
    refine V.icmp_ge 30 dX0_howManyLit_9 (by decide) (fun z => absurd z (by rw [hp]; exact nI_ge (by omega) (by omega))) (fun _ => ?_)
    refine V.iload_n dX0_howManyLit_12 rfl ?_
    refine V.aload_n dX0_howManyLit_13 rfl ?_
    refine V.getf okX0 5 fl_X0_25 dX0_howManyLit_14 (by decide) H.1 rfl ?_
    refine V.iload_n dX0_howManyLit_17 rfl ?_
    refine V.ialdN dX0_howManyLit_18 (C0_r5 H) (rfl) (by omega) (by decide) ?_
    refine V.cS1 yoJ6_bitCount_0f7a4 ml_X0_100 st_J6_bitCount_0f7a4 dX0_howManyLit_19 (Nat.le_of_ble_eq_true rfl) (by omega) ⟨Nat.le_refl _, Nat.le_refl _⟩ rfl (Nat.le_of_ble_eq_true rfl) (bitCountI_V (by omega)) (V.rdK ?_)
    refine V.iadd dX0_howManyLit_22 ?_
    refine V.istore_n dX0_howManyLit_23 (by decide) rfl ?_
    refine V.iinc (v := 1) dX0_howManyLit_24 rfl (by decide) (by decide) rfl ?_
    refine V.goto 4 dX0_howManyLit_27 (by decide) ?_
    refine V.weak [some (.ref a), some (.int (sumI (fun p => bcI (s.2.1 5 p)) (i + 1))), some (.int (nI (i + 1)))] (by simp [leL, sto1, sto2, k2c, nI_1, sumI]) ?_
    exact ih (i + 1) (by omega)
set_option maxRecDepth 100000 in
set_option maxHeartbeats 1000000 in
theorem leftOfAll_V {d n0 : Nat} {κ : Kd} (hd : 2 ≤ d) {h : Hp} {a n : Nat} {s : St} (H : isR C0 h a s) (hp : s.1 0 = nI n) (hn : n ≤ 6) : V MX0_leftOfAll (d, 0, 0, n0, κ) 0 0 h 0 [some (.ref a), none, none] [] (Rd h (.int (sumI (cLeft s) n))) := by
  refine V.iconst (v := 0) dX0_leftOfAll_0 (by decide) ?_
  refine V.istore_n dX0_leftOfAll_1 (by decide) rfl ?_
  refine V.iconst (v := nI 0) dX0_leftOfAll_2 (by decide) ?_
  refine V.istore_n dX0_leftOfAll_3 (by decide) rfl ?_
  suffices hL : ∀ (k i : Nat), i + k = n → V MX0_leftOfAll (d, 0, 0, n0, κ) 0 0 h 4 [some (.ref a), some (.int (sumI (cLeft s) i)), some (.int (nI i))] [] (Rd h (.int (sumI (cLeft s) n))) from hL (n) 0 (by omega)
  intro k
  induction k with
  | zero =>
    intro i hik
    have hin : i = n := by omega
    subst hin
    refine V.iload_n dX0_leftOfAll_4 rfl ?_
    refine V.aload_n dX0_leftOfAll_5 rfl ?_
    refine V.getf okX0 0 fl_X0_37 dX0_leftOfAll_6 (by decide) H.1 rfl ?_
    refine V.icmp_ge 26 dX0_leftOfAll_9 (by decide) (fun _ => ?_) (fun z => absurd (by rw [hp]; exact nI_le (Nat.le_refl _) (by omega)) z)
    refine V.iload_n dX0_leftOfAll_26 rfl ?_
    refine V.iret dX0_leftOfAll_27 rfl ?_
    exact ⟨rfl, rfl⟩
  | succ k ih =>
    intro i hik
    refine V.iload_n dX0_leftOfAll_4 rfl ?_
    refine V.aload_n dX0_leftOfAll_5 rfl ?_
    refine V.getf okX0 0 fl_X0_37 dX0_leftOfAll_6 (by decide) H.1 rfl ?_
    refine V.icmp_ge 26 dX0_leftOfAll_9 (by decide) (fun z => absurd z (by rw [hp]; exact nI_ge (by omega) (by omega))) (fun _ => ?_)
    refine V.iload_n dX0_leftOfAll_12 rfl ?_
    refine V.aload_n dX0_leftOfAll_13 rfl ?_
    refine V.iload_n dX0_leftOfAll_14 rfl ?_
    refine V.cV1 (ci := 0) yoX0_leftOf ml_X0_83 im_X0_leftOf se_X0_leftOf dX0_leftOfAll_15 rfl H.1 (Nat.le_of_ble_eq_true rfl) (by omega) ⟨Nat.le_refl _, Nat.le_refl _⟩ rfl (Nat.le_of_ble_eq_true rfl) (leftOf_V (by omega) H (by omega)) (V.rdK ?_)
    refine V.iadd dX0_leftOfAll_18 ?_
    refine V.istore_n dX0_leftOfAll_19 (by decide) rfl ?_
    refine V.iinc (v := 1) dX0_leftOfAll_20 rfl (by decide) (by decide) rfl ?_
    refine V.goto 4 dX0_leftOfAll_23 (by decide) ?_
    refine V.weak [some (.ref a), some (.int (sumI (cLeft s) (i + 1))), some (.int (nI (i + 1)))] (by simp [leL, sto1, sto2, k2c, nI_1, sumI]) ?_
    exact ih (i + 1) (by omega)
set_option maxRecDepth 100000 in
set_option maxHeartbeats 1000000 in
theorem seenOfAll_V {d n0 : Nat} {κ : Kd} (hd : 1 ≤ d) {h : Hp} {a n : Nat} {s : St} (H : isR C0 h a s) (hp : s.1 0 = nI n) (hn : n ≤ 6) : V MX0_seenOfAll (d, 0, 0, n0, κ) 0 0 h 0 [some (.ref a), none, none] [] (Rd h (.int (sumI (s.2.1 6) n))) := by
  refine V.iconst (v := 0) dX0_seenOfAll_0 (by decide) ?_
  refine V.istore_n dX0_seenOfAll_1 (by decide) rfl ?_
  refine V.iconst (v := nI 0) dX0_seenOfAll_2 (by decide) ?_
  refine V.istore_n dX0_seenOfAll_3 (by decide) rfl ?_
  suffices hL : ∀ (k i : Nat), i + k = n → V MX0_seenOfAll (d, 0, 0, n0, κ) 0 0 h 4 [some (.ref a), some (.int (sumI (s.2.1 6) i)), some (.int (nI i))] [] (Rd h (.int (sumI (s.2.1 6) n))) from hL (n) 0 (by omega)
  intro k
  induction k with
  | zero =>
    intro i hik
    have hin : i = n := by omega
    subst hin
    refine V.iload_n dX0_seenOfAll_4 rfl ?_
    refine V.aload_n dX0_seenOfAll_5 rfl ?_
    refine V.getf okX0 0 fl_X0_37 dX0_seenOfAll_6 (by decide) H.1 rfl ?_
    refine V.icmp_ge 27 dX0_seenOfAll_9 (by decide) (fun _ => ?_) (fun z => absurd (by rw [hp]; exact nI_le (Nat.le_refl _) (by omega)) z)
    refine V.iload_n dX0_seenOfAll_27 rfl ?_
    refine V.iret dX0_seenOfAll_28 rfl ?_
    exact ⟨rfl, rfl⟩
  | succ k ih =>
    intro i hik
    refine V.iload_n dX0_seenOfAll_4 rfl ?_
    refine V.aload_n dX0_seenOfAll_5 rfl ?_
    refine V.getf okX0 0 fl_X0_37 dX0_seenOfAll_6 (by decide) H.1 rfl ?_
    refine V.icmp_ge 27 dX0_seenOfAll_9 (by decide) (fun z => absurd z (by rw [hp]; exact nI_ge (by omega) (by omega))) (fun _ => ?_)
    refine V.iload_n dX0_seenOfAll_12 rfl ?_
    refine V.aload_n dX0_seenOfAll_13 rfl ?_
    refine V.getf okX0 6 fl_X0_28 dX0_seenOfAll_14 (by decide) H.1 rfl ?_
    refine V.iload_n dX0_seenOfAll_17 rfl ?_
    refine V.ialdN dX0_seenOfAll_18 (C0_r6 H) (rfl) (by omega) (by decide) ?_
    refine V.iadd dX0_seenOfAll_19 ?_
    refine V.istore_n dX0_seenOfAll_20 (by decide) rfl ?_
    refine V.iinc (v := 1) dX0_seenOfAll_21 rfl (by decide) (by decide) rfl ?_
    refine V.goto 4 dX0_seenOfAll_24 (by decide) ?_
    refine V.weak [some (.ref a), some (.int (sumI (s.2.1 6) (i + 1))), some (.int (nI (i + 1)))] (by simp [leL, sto1, sto2, k2c, nI_1, sumI]) ?_
    exact ih (i + 1) (by omega)
set_option maxRecDepth 100000 in
set_option maxHeartbeats 1000000 in
theorem howManyOut_V {d n0 : Nat} {κ : Kd} (hd : 3 ≤ d) {h : Hp} {a n : Nat} {s : St} (H : isR C0 h a s) (hp : s.1 0 = nI n) (hn : n ≤ 6) : V MX0_howManyOut (d, 0, 0, n0, κ) 0 0 h 0 [some (.ref a)] [] (Rd h (.int (bcI (outM (cLeft s) n)))) := by
  refine V.aload_n dX0_howManyOut_0 rfl ?_
  refine V.cV0 (ci := 0) yoX0_outMen ml_X0_96 im_X0_outMen se_X0_outMen dX0_howManyOut_1 rfl H.1 (Nat.le_of_ble_eq_true rfl) (by omega) ⟨Nat.le_refl _, Nat.le_refl _⟩ rfl (Nat.le_of_ble_eq_true rfl) (outMen_V (by omega) H hp hn) (V.rdK ?_)
  refine V.cS1 yoJ6_bitCount_0f7a4 ml_X0_100 st_J6_bitCount_0f7a4 dX0_howManyOut_4 (Nat.le_of_ble_eq_true rfl) (by omega) ⟨Nat.le_refl _, Nat.le_refl _⟩ rfl (Nat.le_of_ble_eq_true rfl) (bitCountI_V (by omega)) (V.rdK ?_)
  refine V.iret dX0_howManyOut_7 rfl ?_
  exact ⟨rfl, rfl⟩
def cBegin (s t : St) : St := (upd (upd (upd (upd (upd s.1 0 (t.1 0)) 7 0) 8 0) 9 0) 10 (t.1 11), uR (uR (uR (uR (uR s.2.1 1 (t.2.1 2)) 3 (fun _ => 0)) 4 (fun _ => 0)) 5 (fun _ => 0)) 6 (fun _ => 0), uR s.2.2.1 2 (t.2.2.1 3), s.2.2.2)
def cCopy (s t : St) : St := (upd (upd (upd (upd (upd s.1 0 (t.1 0)) 7 (t.1 7)) 8 (t.1 8)) 9 (t.1 9)) 10 (t.1 10), uR (uR (uR (uR (uR s.2.1 1 (t.2.1 1)) 3 (t.2.1 3)) 4 (t.2.1 4)) 5 (t.2.1 5)) 6 (t.2.1 6), uR s.2.2.1 2 (t.2.2.1 2), s.2.2.2)
set_option maxRecDepth 100000 in
set_option maxHeartbeats 1000000 in
theorem begin_V {d n0 : Nat} {κ : Kd} (hd : 2 ≤ d) {h : Hp} {a t : Nat} {s t0 : St} (H : isR C0 h a s) (HT : isR C8 h t t0) (hap : t + 5 ≤ a ∨ a + 7 ≤ t) : V MX0_begin (d, 0, 0, n0, κ) 0 0 h 0 [some (.ref a), some (.ref (t))] [] (fun v h' => v = none ∧ isR C0 h' a (cBegin s t0) ∧ ∀ b : Nat, (b < a ∨ a + 7 ≤ b) → h' b = h b) := by
  have hfr : ∀ b : Nat, (b < a ∨ a + 7 ≤ b) → h b = h b := fun _ _ => rfl
  refine V.aload_n dX0_begin_0 rfl ?_
  refine V.aload_n dX0_begin_1 rfl ?_
  refine V.getf okX8 0 fl_X0_31 dX0_begin_2 (by decide) HT.1 rfl ?_
  refine V.putfH okX0 0 fl_X0_37 dX0_begin_5 (by decide) rfl H.1 (rfl) (rfl) (Nat.le_of_ble_eq_true rfl) (fun h1 eh1 oh1 => ?_)
  have H := isR.setI C0_ok H 0 _ (fun _ _ => rfl) eh1 oh1
  have HT := HT.kept C8_ok (fun b hb1 hb2 => oh1 b (by have hb3 : b < _ := hb2; simp only [C8] at hb3; omega))
  have hfr : ∀ b : Nat, (b < a ∨ a + 7 ≤ b) → h1 b = h b := fun b hb => (oh1 b (by omega)).trans (hfr b hb)
  refine V.aload_n dX0_begin_8 rfl ?_
  refine V.getf okX8 2 fl_X0_38 dX0_begin_9 (by decide) HT.1 rfl ?_
  refine V.iconst (v := 0) dX0_begin_12 (by decide) ?_
  refine V.aload_n dX0_begin_13 rfl ?_
  refine V.getf okX0 1 fl_X0_9 dX0_begin_14 (by decide) H.1 rfl ?_
  refine V.iconst (v := 0) dX0_begin_17 (by decide) ?_
  refine V.bipush (v := 6) dX0_begin_18 (by decide) ?_
  refine V.copyIF ml_X0_39 dX0_begin_20 (C8_r2 HT) (C0_r1 H) rfl rfl rfl (by decide) (by omega) (Nat.le_of_ble_eq_true rfl) (fun h2 eh2 oh2 => ?_)
  have H := isR.setAR C0_ok H C0_in1 (by decide) _ eh2 oh2
  have HT := HT.kept C8_ok (fun b hb1 hb2 => oh2 b (by have hb3 : b < _ := hb2; simp only [C8] at hb3; omega))
  have hfr : ∀ b : Nat, (b < a ∨ a + 7 ≤ b) → h2 b = h b := fun b hb => (oh2 b (by omega)).trans (hfr b hb)
  refine V.aload_n dX0_begin_23 rfl ?_
  refine V.getf okX8 3 fl_X0_45 dX0_begin_24 (by decide) HT.1 rfl ?_
  refine V.iconst (v := 0) dX0_begin_27 (by decide) ?_
  refine V.aload_n dX0_begin_28 rfl ?_
  refine V.getf okX0 2 fl_X0_15 dX0_begin_29 (by decide) H.1 rfl ?_
  refine V.iconst (v := 0) dX0_begin_32 (by decide) ?_
  refine V.bipush (v := 6) dX0_begin_33 (by decide) ?_
  refine V.copyJF ml_X0_39 dX0_begin_35 (C8_r3 HT) (C0_r2 H) rfl rfl rfl (by decide) (by omega) (Nat.le_of_ble_eq_true rfl) (fun h3 eh3 oh3 => ?_)
  have H := isR.setJR C0_ok H C0_in2 _ eh3 oh3
  have HT := HT.kept C8_ok (fun b hb1 hb2 => oh3 b (by have hb3 : b < _ := hb2; simp only [C8] at hb3; omega))
  have hfr : ∀ b : Nat, (b < a ∨ a + 7 ≤ b) → h3 b = h b := fun b hb => (oh3 b (by omega)).trans (hfr b hb)
  refine V.aload_n dX0_begin_38 rfl ?_
  refine V.getf okX0 3 fl_X0_19 dX0_begin_39 (by decide) H.1 rfl ?_
  refine V.iconst (v := 0) dX0_begin_42 (by decide) ?_
  refine V.cS2 yoJ7_fill_53178 ml_X0_46 st_J7_fill_53178 dX0_begin_43 (Nat.le_of_ble_eq_true rfl) (by omega) ⟨Nat.le_refl _, Nat.le_refl _⟩ rfl (Nat.le_of_ble_eq_true rfl) (fillI_V (by omega) (by decide) (C0_r3 H)) ?_
  rintro _ h4 ⟨rfl, eh4, oh4⟩
  have H := isR.setAR C0_ok H C0_in3 (by decide) _ eh4 oh4
  have HT := HT.kept C8_ok (fun b hb1 hb2 => oh4 b (by have hb3 : b < _ := hb2; simp only [C8] at hb3; omega))
  have hfr : ∀ b : Nat, (b < a ∨ a + 7 ≤ b) → h4 b = h b := fun b hb => (oh4 b (by omega)).trans (hfr b hb)
  refine V.aload_n dX0_begin_46 rfl ?_
  refine V.getf okX0 4 fl_X0_22 dX0_begin_47 (by decide) H.1 rfl ?_
  refine V.iconst (v := 0) dX0_begin_50 (by decide) ?_
  refine V.cS2 yoJ7_fill_53178 ml_X0_46 st_J7_fill_53178 dX0_begin_51 (Nat.le_of_ble_eq_true rfl) (by omega) ⟨Nat.le_refl _, Nat.le_refl _⟩ rfl (Nat.le_of_ble_eq_true rfl) (fillI_V (by omega) (by decide) (C0_r4 H)) ?_
  rintro _ h5 ⟨rfl, eh5, oh5⟩
  have H := isR.setAR C0_ok H C0_in4 (by decide) _ eh5 oh5
  have HT := HT.kept C8_ok (fun b hb1 hb2 => oh5 b (by have hb3 : b < _ := hb2; simp only [C8] at hb3; omega))
  have hfr : ∀ b : Nat, (b < a ∨ a + 7 ≤ b) → h5 b = h b := fun b hb => (oh5 b (by omega)).trans (hfr b hb)
  refine V.aload_n dX0_begin_54 rfl ?_
  refine V.getf okX0 5 fl_X0_25 dX0_begin_55 (by decide) H.1 rfl ?_
  refine V.iconst (v := 0) dX0_begin_58 (by decide) ?_
  refine V.cS2 yoJ7_fill_53178 ml_X0_46 st_J7_fill_53178 dX0_begin_59 (Nat.le_of_ble_eq_true rfl) (by omega) ⟨Nat.le_refl _, Nat.le_refl _⟩ rfl (Nat.le_of_ble_eq_true rfl) (fillI_V (by omega) (by decide) (C0_r5 H)) ?_
  rintro _ h6 ⟨rfl, eh6, oh6⟩
  have H := isR.setAR C0_ok H C0_in5 (by decide) _ eh6 oh6
  have HT := HT.kept C8_ok (fun b hb1 hb2 => oh6 b (by have hb3 : b < _ := hb2; simp only [C8] at hb3; omega))
  have hfr : ∀ b : Nat, (b < a ∨ a + 7 ≤ b) → h6 b = h b := fun b hb => (oh6 b (by omega)).trans (hfr b hb)
  refine V.aload_n dX0_begin_62 rfl ?_
  refine V.getf okX0 6 fl_X0_28 dX0_begin_63 (by decide) H.1 rfl ?_
  refine V.iconst (v := 0) dX0_begin_66 (by decide) ?_
  refine V.cS2 yoJ7_fill_53178 ml_X0_46 st_J7_fill_53178 dX0_begin_67 (Nat.le_of_ble_eq_true rfl) (by omega) ⟨Nat.le_refl _, Nat.le_refl _⟩ rfl (Nat.le_of_ble_eq_true rfl) (fillI_V (by omega) (by decide) (C0_r6 H)) ?_
  rintro _ h7 ⟨rfl, eh7, oh7⟩
  have H := isR.setAR C0_ok H C0_in6 (by decide) _ eh7 oh7
  have HT := HT.kept C8_ok (fun b hb1 hb2 => oh7 b (by have hb3 : b < _ := hb2; simp only [C8] at hb3; omega))
  have hfr : ∀ b : Nat, (b < a ∨ a + 7 ≤ b) → h7 b = h b := fun b hb => (oh7 b (by omega)).trans (hfr b hb)
  refine V.aload_n dX0_begin_70 rfl ?_
  refine V.iconst (v := 0) dX0_begin_71 (by decide) ?_
  refine V.putfH okX0 7 fl_X0_52 dX0_begin_72 (by decide) rfl H.1 (rfl) (rfl) (Nat.le_of_ble_eq_true rfl) (fun h8 eh8 oh8 => ?_)
  have H := isR.setI C0_ok H 7 _ (fun _ _ => rfl) eh8 oh8
  have HT := HT.kept C8_ok (fun b hb1 hb2 => oh8 b (by have hb3 : b < _ := hb2; simp only [C8] at hb3; omega))
  have hfr : ∀ b : Nat, (b < a ∨ a + 7 ≤ b) → h8 b = h b := fun b hb => (oh8 b (by omega)).trans (hfr b hb)
  refine V.aload_n dX0_begin_75 rfl ?_
  refine V.iconst (v := 0) dX0_begin_76 (by decide) ?_
  refine V.putfH okX0 8 fl_X0_55 dX0_begin_77 (by decide) rfl H.1 (rfl) (rfl) (Nat.le_of_ble_eq_true rfl) (fun h9 eh9 oh9 => ?_)
  have H := isR.setI C0_ok H 8 _ (fun _ _ => rfl) eh9 oh9
  have HT := HT.kept C8_ok (fun b hb1 hb2 => oh9 b (by have hb3 : b < _ := hb2; simp only [C8] at hb3; omega))
  have hfr : ∀ b : Nat, (b < a ∨ a + 7 ≤ b) → h9 b = h b := fun b hb => (oh9 b (by omega)).trans (hfr b hb)
  refine V.aload_n dX0_begin_80 rfl ?_
  refine V.iconst (v := 0) dX0_begin_81 (by decide) ?_
  refine V.putfH okX0 9 fl_X0_58 dX0_begin_82 (by decide) rfl H.1 (rfl) (rfl) (Nat.le_of_ble_eq_true rfl) (fun h10 eh10 oh10 => ?_)
  have H := isR.setI C0_ok H 9 _ (fun _ _ => rfl) eh10 oh10
  have HT := HT.kept C8_ok (fun b hb1 hb2 => oh10 b (by have hb3 : b < _ := hb2; simp only [C8] at hb3; omega))
  have hfr : ∀ b : Nat, (b < a ∨ a + 7 ≤ b) → h10 b = h b := fun b hb => (oh10 b (by omega)).trans (hfr b hb)
  refine V.aload_n dX0_begin_85 rfl ?_
  refine V.aload_n dX0_begin_86 rfl ?_
  refine V.getf okX8 11 fl_X0_61 dX0_begin_87 (by decide) HT.1 rfl ?_
  refine V.putfH okX0 10 fl_X0_64 dX0_begin_90 (by decide) rfl H.1 (rfl) (rfl) (Nat.le_of_ble_eq_true rfl) (fun h11 eh11 oh11 => ?_)
  have H := isR.setI C0_ok H 10 _ (fun _ _ => rfl) eh11 oh11
  have HT := HT.kept C8_ok (fun b hb1 hb2 => oh11 b (by have hb3 : b < _ := hb2; simp only [C8] at hb3; omega))
  have hfr : ∀ b : Nat, (b < a ∨ a + 7 ≤ b) → h11 b = h b := fun b hb => (oh11 b (by omega)).trans (hfr b hb)
  refine V.vret dX0_begin_93 rfl ?_
  exact ⟨rfl, H, hfr⟩
set_option maxRecDepth 100000 in
set_option maxHeartbeats 1000000 in
theorem copy_V {d n0 : Nat} {κ : Kd} (hd : 2 ≤ d) {h : Hp} {a t : Nat} {s t0 : St} (H : isR C0 h a s) (HT : isR C0 h t t0) (hap : t + 7 ≤ a ∨ a + 7 ≤ t) : V MX0_copy (d, 0, 0, n0, κ) 0 0 h 0 [some (.ref a), some (.ref (t))] [] (fun v h' => v = none ∧ isR C0 h' a (cCopy s t0) ∧ ∀ b : Nat, (b < a ∨ a + 7 ≤ b) → h' b = h b) := by
  have hfr : ∀ b : Nat, (b < a ∨ a + 7 ≤ b) → h b = h b := fun _ _ => rfl
  refine V.aload_n dX0_copy_0 rfl ?_
  refine V.aload_n dX0_copy_1 rfl ?_
  refine V.getf okX0 0 fl_X0_37 dX0_copy_2 (by decide) HT.1 rfl ?_
  refine V.putfH okX0 0 fl_X0_37 dX0_copy_5 (by decide) rfl H.1 (rfl) (rfl) (Nat.le_of_ble_eq_true rfl) (fun h1 eh1 oh1 => ?_)
  have H := isR.setI C0_ok H 0 _ (fun _ _ => rfl) eh1 oh1
  have HT := HT.kept C0_ok (fun b hb1 hb2 => oh1 b (by have hb3 : b < _ := hb2; simp only [C0] at hb3; omega))
  have hfr : ∀ b : Nat, (b < a ∨ a + 7 ≤ b) → h1 b = h b := fun b hb => (oh1 b (by omega)).trans (hfr b hb)
  refine V.aload_n dX0_copy_8 rfl ?_
  refine V.getf okX0 1 fl_X0_9 dX0_copy_9 (by decide) HT.1 rfl ?_
  refine V.iconst (v := 0) dX0_copy_12 (by decide) ?_
  refine V.aload_n dX0_copy_13 rfl ?_
  refine V.getf okX0 1 fl_X0_9 dX0_copy_14 (by decide) H.1 rfl ?_
  refine V.iconst (v := 0) dX0_copy_17 (by decide) ?_
  refine V.bipush (v := 6) dX0_copy_18 (by decide) ?_
  refine V.copyIF ml_X0_39 dX0_copy_20 (C0_r1 HT) (C0_r1 H) rfl rfl rfl (by decide) (by omega) (Nat.le_of_ble_eq_true rfl) (fun h2 eh2 oh2 => ?_)
  have H := isR.setAR C0_ok H C0_in1 (by decide) _ eh2 oh2
  have HT := HT.kept C0_ok (fun b hb1 hb2 => oh2 b (by have hb3 : b < _ := hb2; simp only [C0] at hb3; omega))
  have hfr : ∀ b : Nat, (b < a ∨ a + 7 ≤ b) → h2 b = h b := fun b hb => (oh2 b (by omega)).trans (hfr b hb)
  refine V.aload_n dX0_copy_23 rfl ?_
  refine V.getf okX0 2 fl_X0_15 dX0_copy_24 (by decide) HT.1 rfl ?_
  refine V.iconst (v := 0) dX0_copy_27 (by decide) ?_
  refine V.aload_n dX0_copy_28 rfl ?_
  refine V.getf okX0 2 fl_X0_15 dX0_copy_29 (by decide) H.1 rfl ?_
  refine V.iconst (v := 0) dX0_copy_32 (by decide) ?_
  refine V.bipush (v := 6) dX0_copy_33 (by decide) ?_
  refine V.copyJF ml_X0_39 dX0_copy_35 (C0_r2 HT) (C0_r2 H) rfl rfl rfl (by decide) (by omega) (Nat.le_of_ble_eq_true rfl) (fun h3 eh3 oh3 => ?_)
  have H := isR.setJR C0_ok H C0_in2 _ eh3 oh3
  have HT := HT.kept C0_ok (fun b hb1 hb2 => oh3 b (by have hb3 : b < _ := hb2; simp only [C0] at hb3; omega))
  have hfr : ∀ b : Nat, (b < a ∨ a + 7 ≤ b) → h3 b = h b := fun b hb => (oh3 b (by omega)).trans (hfr b hb)
  refine V.aload_n dX0_copy_38 rfl ?_
  refine V.getf okX0 3 fl_X0_19 dX0_copy_39 (by decide) HT.1 rfl ?_
  refine V.iconst (v := 0) dX0_copy_42 (by decide) ?_
  refine V.aload_n dX0_copy_43 rfl ?_
  refine V.getf okX0 3 fl_X0_19 dX0_copy_44 (by decide) H.1 rfl ?_
  refine V.iconst (v := 0) dX0_copy_47 (by decide) ?_
  refine V.bipush (v := 6) dX0_copy_48 (by decide) ?_
  refine V.copyIF ml_X0_39 dX0_copy_50 (C0_r3 HT) (C0_r3 H) rfl rfl rfl (by decide) (by omega) (Nat.le_of_ble_eq_true rfl) (fun h4 eh4 oh4 => ?_)
  have H := isR.setAR C0_ok H C0_in3 (by decide) _ eh4 oh4
  have HT := HT.kept C0_ok (fun b hb1 hb2 => oh4 b (by have hb3 : b < _ := hb2; simp only [C0] at hb3; omega))
  have hfr : ∀ b : Nat, (b < a ∨ a + 7 ≤ b) → h4 b = h b := fun b hb => (oh4 b (by omega)).trans (hfr b hb)
  refine V.aload_n dX0_copy_53 rfl ?_
  refine V.getf okX0 4 fl_X0_22 dX0_copy_54 (by decide) HT.1 rfl ?_
  refine V.iconst (v := 0) dX0_copy_57 (by decide) ?_
  refine V.aload_n dX0_copy_58 rfl ?_
  refine V.getf okX0 4 fl_X0_22 dX0_copy_59 (by decide) H.1 rfl ?_
  refine V.iconst (v := 0) dX0_copy_62 (by decide) ?_
  refine V.bipush (v := 6) dX0_copy_63 (by decide) ?_
  refine V.copyIF ml_X0_39 dX0_copy_65 (C0_r4 HT) (C0_r4 H) rfl rfl rfl (by decide) (by omega) (Nat.le_of_ble_eq_true rfl) (fun h5 eh5 oh5 => ?_)
  have H := isR.setAR C0_ok H C0_in4 (by decide) _ eh5 oh5
  have HT := HT.kept C0_ok (fun b hb1 hb2 => oh5 b (by have hb3 : b < _ := hb2; simp only [C0] at hb3; omega))
  have hfr : ∀ b : Nat, (b < a ∨ a + 7 ≤ b) → h5 b = h b := fun b hb => (oh5 b (by omega)).trans (hfr b hb)
  refine V.aload_n dX0_copy_68 rfl ?_
  refine V.getf okX0 5 fl_X0_25 dX0_copy_69 (by decide) HT.1 rfl ?_
  refine V.iconst (v := 0) dX0_copy_72 (by decide) ?_
  refine V.aload_n dX0_copy_73 rfl ?_
  refine V.getf okX0 5 fl_X0_25 dX0_copy_74 (by decide) H.1 rfl ?_
  refine V.iconst (v := 0) dX0_copy_77 (by decide) ?_
  refine V.bipush (v := 6) dX0_copy_78 (by decide) ?_
  refine V.copyIF ml_X0_39 dX0_copy_80 (C0_r5 HT) (C0_r5 H) rfl rfl rfl (by decide) (by omega) (Nat.le_of_ble_eq_true rfl) (fun h6 eh6 oh6 => ?_)
  have H := isR.setAR C0_ok H C0_in5 (by decide) _ eh6 oh6
  have HT := HT.kept C0_ok (fun b hb1 hb2 => oh6 b (by have hb3 : b < _ := hb2; simp only [C0] at hb3; omega))
  have hfr : ∀ b : Nat, (b < a ∨ a + 7 ≤ b) → h6 b = h b := fun b hb => (oh6 b (by omega)).trans (hfr b hb)
  refine V.aload_n dX0_copy_83 rfl ?_
  refine V.getf okX0 6 fl_X0_28 dX0_copy_84 (by decide) HT.1 rfl ?_
  refine V.iconst (v := 0) dX0_copy_87 (by decide) ?_
  refine V.aload_n dX0_copy_88 rfl ?_
  refine V.getf okX0 6 fl_X0_28 dX0_copy_89 (by decide) H.1 rfl ?_
  refine V.iconst (v := 0) dX0_copy_92 (by decide) ?_
  refine V.bipush (v := 6) dX0_copy_93 (by decide) ?_
  refine V.copyIF ml_X0_39 dX0_copy_95 (C0_r6 HT) (C0_r6 H) rfl rfl rfl (by decide) (by omega) (Nat.le_of_ble_eq_true rfl) (fun h7 eh7 oh7 => ?_)
  have H := isR.setAR C0_ok H C0_in6 (by decide) _ eh7 oh7
  have HT := HT.kept C0_ok (fun b hb1 hb2 => oh7 b (by have hb3 : b < _ := hb2; simp only [C0] at hb3; omega))
  have hfr : ∀ b : Nat, (b < a ∨ a + 7 ≤ b) → h7 b = h b := fun b hb => (oh7 b (by omega)).trans (hfr b hb)
  refine V.aload_n dX0_copy_98 rfl ?_
  refine V.aload_n dX0_copy_99 rfl ?_
  refine V.getf okX0 7 fl_X0_52 dX0_copy_100 (by decide) HT.1 rfl ?_
  refine V.putfH okX0 7 fl_X0_52 dX0_copy_103 (by decide) rfl H.1 (rfl) (rfl) (Nat.le_of_ble_eq_true rfl) (fun h8 eh8 oh8 => ?_)
  have H := isR.setI C0_ok H 7 _ (fun _ _ => rfl) eh8 oh8
  have HT := HT.kept C0_ok (fun b hb1 hb2 => oh8 b (by have hb3 : b < _ := hb2; simp only [C0] at hb3; omega))
  have hfr : ∀ b : Nat, (b < a ∨ a + 7 ≤ b) → h8 b = h b := fun b hb => (oh8 b (by omega)).trans (hfr b hb)
  refine V.aload_n dX0_copy_106 rfl ?_
  refine V.aload_n dX0_copy_107 rfl ?_
  refine V.getf okX0 8 fl_X0_55 dX0_copy_108 (by decide) HT.1 rfl ?_
  refine V.putfH okX0 8 fl_X0_55 dX0_copy_111 (by decide) rfl H.1 (rfl) (rfl) (Nat.le_of_ble_eq_true rfl) (fun h9 eh9 oh9 => ?_)
  have H := isR.setI C0_ok H 8 _ (fun _ _ => rfl) eh9 oh9
  have HT := HT.kept C0_ok (fun b hb1 hb2 => oh9 b (by have hb3 : b < _ := hb2; simp only [C0] at hb3; omega))
  have hfr : ∀ b : Nat, (b < a ∨ a + 7 ≤ b) → h9 b = h b := fun b hb => (oh9 b (by omega)).trans (hfr b hb)
  refine V.aload_n dX0_copy_114 rfl ?_
  refine V.aload_n dX0_copy_115 rfl ?_
  refine V.getf okX0 9 fl_X0_58 dX0_copy_116 (by decide) HT.1 rfl ?_
  refine V.putfH okX0 9 fl_X0_58 dX0_copy_119 (by decide) rfl H.1 (rfl) (rfl) (Nat.le_of_ble_eq_true rfl) (fun h10 eh10 oh10 => ?_)
  have H := isR.setI C0_ok H 9 _ (fun _ _ => rfl) eh10 oh10
  have HT := HT.kept C0_ok (fun b hb1 hb2 => oh10 b (by have hb3 : b < _ := hb2; simp only [C0] at hb3; omega))
  have hfr : ∀ b : Nat, (b < a ∨ a + 7 ≤ b) → h10 b = h b := fun b hb => (oh10 b (by omega)).trans (hfr b hb)
  refine V.aload_n dX0_copy_122 rfl ?_
  refine V.aload_n dX0_copy_123 rfl ?_
  refine V.getf okX0 10 fl_X0_64 dX0_copy_124 (by decide) HT.1 rfl ?_
  refine V.putfH okX0 10 fl_X0_64 dX0_copy_127 (by decide) rfl H.1 (rfl) (rfl) (Nat.le_of_ble_eq_true rfl) (fun h11 eh11 oh11 => ?_)
  have H := isR.setI C0_ok H 10 _ (fun _ _ => rfl) eh11 oh11
  have HT := HT.kept C0_ok (fun b hb1 hb2 => oh11 b (by have hb3 : b < _ := hb2; simp only [C0] at hb3; omega))
  have hfr : ∀ b : Nat, (b < a ∨ a + 7 ≤ b) → h11 b = h b := fun b hb => (oh11 b (by omega)).trans (hfr b hb)
  refine V.vret dX0_copy_130 rfl ?_
  exact ⟨rfl, H, hfr⟩
