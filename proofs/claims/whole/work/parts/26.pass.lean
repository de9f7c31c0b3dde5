/-! Course: wind, shine, an HOUR -/
def nextN (x : Int32) : Int32 := ((x.toInt64 * 1103515245 + 12345) &&& 2147483647).toInt32
def toldN (y : Int32) : Int32 := y / 65536 - y / 65536 / 100 * 100
def windN (dr : Int32) (c : St) : Bool × St := if dr = 0 ∨ dr = 100 then (decide (dr = 100), c) else (decide (¬ dr ≤ toldN (nextN (c.1 10))), (upd c.1 10 (nextN (c.1 10)), c.2.1, c.2.2.1, c.2.2.2))
def windK (w : Int32) (T : Tx) (c : St) : Bool × St := if w = 1 then windN (T.1.1 10) c else if w = 2 then (false, c) else if w = 3 then (true, c) else (tWindy T.1, c)
def withinI (w : Int64) (most : Int32) : Int32 := if ¬ 0 ≤ w then 0 else if w ≤ most.toInt64 then w.toInt32 else most
/-- an E of the law r now, of a PERSON -/
def tW (T : Tx) (r : Nat) (c : St) (i : Nat) (windy : Bool) : Int64 := wRun (ownL c i windy) (T.2.2.2.2.1 2) (T.2.2.2.2.1 3) (nat (T.2.2.2.2.1 5 r) - nat (T.2.2.2.2.1 4 r)) (nat (T.2.2.2.2.1 4 r)) []
def seenS (T : Tx) (lit : Int32) (i : Nat) (c : St) : St := if seesB lit (T.1.2.1 4 i) i = true then (c.1, uA c.2.1 6 i (cMin 9999 (c.2.1 6 i + 1)), c.2.2) else c
def glowN (T : Tx) (windy : Bool) (i : Nat) (c : St) : Int32 := if tW T 1 c i windy = ERR then bcI (c.2.1 5 i) else withinI (tW T 1 c i windy) 999
def glowS (T : Tx) (windy : Bool) (i : Nat) (c : St) : St := if c.2.1 5 i = 0 then c else (upd c.1 8 (cMin 99999 (c.1 8 + glowN T windy i c)), c.2.1, c.2.2.1, c.2.2.2)
def shineF (T : Tx) (windy : Bool) (lit : Int32) : Nat → Nat → St → St
  | 0, _, c => c
  | k + 1, i, c => shineF T windy lit k (i + 1) (glowS T windy i (seenS T lit i c))
def burnN (T : Tx) (noLaw : Int32) (windy : Bool) (i : Nat) (c : St) : Int32 := if noLaw = 0 then (if tW T 0 c i windy = ERR then (if windy then 2 else 1) else withinI (tW T 0 c i windy) 9) else (if windy then 2 else 1)
def burnE (T : Tx) (noLaw : Int32) (windy : Bool) (i : Nat) (e : Int32) (c : St) : St := if cLitB c i e = true then cShorten c i e (burnN T noLaw windy i c) else c
def burnP (T : Tx) (men unb noLaw : Int32) (windy : Bool) (i : Nat) (c : St) : St := if litB men (nI i) = true ∧ ¬ nI i = unb then burnE T noLaw windy i 1 (burnE T noLaw windy i 0 c) else c
def burnF (T : Tx) (men unb noLaw : Int32) (windy : Bool) : Nat → Nat → St → St
  | 0, _, c => c
  | k + 1, i, c => burnF T men unb noLaw windy k (i + 1) (burnP T men unb noLaw windy i c)
def hourS (c : St) : St := (upd c.1 7 (c.1 7 + 1), c.2.1, c.2.2.1, c.2.2.2)
/-- an HOUR of these men; k: the course's own numbers -/
def passS (T : Tx) (k : Nat → Int32) (men : Int32) (look : Bool) (c : St) : St :=
  let w := windK (k 1) T (cLB T men (k 3) c)
  let c2 := if look then shineF T w.1 (litM (w.2.2.1 5) (nat (T.1.1 0))) (nat (T.1.1 0)) 0 w.2 else w.2
  hourS (burnF T men (k 2) (k 4) w.1 (nat (T.1.1 0)) 0 c2)
theorem worthT_V {d n0 : Nat} {κ : Kd} (hd : 4 ≤ d) {h : Hp} {t b0 i r : Nat} {c : St} {T : Tx} {windy : Bool} (HL : isL h (t + 13) T.2.2.2) (HC : isR C0 h b0 c) (hw : wfT T) (hs2 : t + 19 ≤ b0 ∨ b0 + 7 ≤ t) (hi : i < nat (T.1.1 0)) (hr : r < 3) : V MX4_worth (d, 0, 0, n0, κ) 0 0 h 0 [some (.ref (t + 13)), some (.int (nI r)), some (.ref b0), some (.int (nI i)), some (.int (bI windy)), none, none, none, none, none] [] (fun v h' => v = some (.long (tW T r c i windy)) ∧ isL h' (t + 13) T.2.2.2 ∧ ∀ b : Nat, (b < t + 13 ∨ t + 19 ≤ b) → h' b = h b) :=
  worth_V hd HL HC (by omega) (hw.2.2.2 r hr).1.1 (hw.2.2.2 r hr).2.1 (by have := (hw.2.2.2 r hr).1.2; omega) (by have := (hw.2.2.2 r hr).2.2; omega) (by have := hw.1.2; omega) hr
set_option maxRecDepth 100000 in
set_option maxHeartbeats 1000000 in
theorem within_V {d n0 : Nat} {κ : Kd} (hd : 1 ≤ d) {h : Hp} {w : Int64} {most : Int32} : V MX11_within (d, 0, 0, n0, κ) 0 0 h 0 [some (.long (w)), none, some (.int (most))] [] (Rd h (.int (withinI w most))) := by
  refine V.lload_n dX11_within_0 rfl ?_
  refine V.lconst (v := 0) dX11_within_1 (by decide) ?_
  refine V.lcmp dX11_within_2 ?_
  refine V.if_ge 8 dX11_within_3 (by decide) (fun c3 => ?_) (fun c3 => ?_)
  · skip
    refine V.lload_n dX11_within_8 rfl ?_
    refine V.iload_n dX11_within_9 rfl ?_
    refine V.i2l dX11_within_10 ?_
    refine V.lcmp dX11_within_11 ?_
    refine V.if_le 19 dX11_within_12 (by decide) (fun c12 => ?_) (fun c12 => ?_)
    · skip
      refine V.lload_n dX11_within_19 rfl ?_
      refine V.l2i dX11_within_20 ?_
      refine V.iret dX11_within_21 rfl ?_
      exact ⟨by simp_all [-Int64.not_le, -Int64.not_lt, withinI, lg_cmp_ge, lg_cmp_le], rfl⟩
    · skip
      refine V.iload_n dX11_within_15 rfl ?_
      refine V.goto 21 dX11_within_16 (by decide) ?_
      refine V.iret dX11_within_21 rfl ?_
      exact ⟨by simp_all [-Int64.not_le, -Int64.not_lt, withinI, lg_cmp_ge, lg_cmp_le], rfl⟩
  · skip
    refine V.iconst (v := 0) dX11_within_6 (by decide) ?_
    refine V.iret dX11_within_7 rfl ?_
    exact ⟨by simp_all [-Int64.not_le, -Int64.not_lt, withinI, lg_cmp_ge, lg_cmp_le], rfl⟩
set_option maxRecDepth 100000 in
set_option maxHeartbeats 1000000 in
theorem windN_V {d n0 : Nat} {κ : Kd} (hd : 1 ≤ d) {h : Hp} {a t b0 : Nat} {s c : St} {T : Tx} (H : isR C1 h a s) (hr : s.2.2.2 0 = t) (HT : isT h t T) (HC : isR C0 h b0 c) (hs1 : a < b0 ∨ b0 + 7 ≤ a) (hs2 : t + 19 ≤ b0 ∨ b0 + 7 ≤ t) : V MX1_isWindyByNumber (d, 0, 0, n0, κ) 0 0 h 0 [some (.ref a), some (.ref (b0))] [] (fun v h' => v = some (.int (bI (windN (T.1.1 10) c).1)) ∧ isR C0 h' b0 (windN (T.1.1 10) c).2 ∧ ∀ b : Nat, (b < b0 ∨ b0 + 7 ≤ b) → h' b = h b) := by
  obtain ⟨HT1, HT2, HT3, HT4⟩ := HT
  have hfr : ∀ b : Nat, (b < b0 ∨ b0 + 7 ≤ b) → h b = h b := fun _ _ => rfl
  refine V.aload_n dX1_isWindyByNumber_0 rfl ?_
  refine V.getf (v := .ref (t)) okX1 0 fl_X1_12 dX1_isWindyByNumber_1 (by decide) H.1 (congrArg (fun z => some (Value.ref z)) (hr)) ?_
  refine V.getf okX8 10 fl_X1_113 dX1_isWindyByNumber_4 (by decide) HT1.1 rfl ?_
  refine V.if_eq 22 dX1_isWindyByNumber_7 (by decide) (fun c7 => ?_) (fun c7 => ?_)
  · skip
    refine V.aload_n dX1_isWindyByNumber_22 rfl ?_
    refine V.getf (v := .ref (t)) okX1 0 fl_X1_12 dX1_isWindyByNumber_23 (by decide) H.1 (congrArg (fun z => some (Value.ref z)) (hr)) ?_
    refine V.getf okX8 10 fl_X1_113 dX1_isWindyByNumber_26 (by decide) HT1.1 rfl ?_
    refine V.bipush (v := 100) dX1_isWindyByNumber_29 (by decide) ?_
    refine V.icmp_ne 38 dX1_isWindyByNumber_31 (by decide) (fun c31 => ?_) (fun c31 => ?_)
    · skip
      refine V.iconst (v := 0) dX1_isWindyByNumber_38 (by decide) ?_
      refine V.zret .boolean dX1_isWindyByNumber_39 rfl (rfl) ?_
      exact ⟨by simp_all [windN, bI], by simpa [windN, *] using HC, hfr⟩
    · skip
      refine V.iconst (v := 1) dX1_isWindyByNumber_34 (by decide) ?_
      refine V.goto 39 dX1_isWindyByNumber_35 (by decide) ?_
      refine V.zret .boolean dX1_isWindyByNumber_39 rfl (rfl) ?_
      exact ⟨by simp_all [windN, bI], by simpa [windN, *] using HC, hfr⟩
  · skip
    refine V.aload_n dX1_isWindyByNumber_10 rfl ?_
    refine V.getf (v := .ref (t)) okX1 0 fl_X1_12 dX1_isWindyByNumber_11 (by decide) H.1 (congrArg (fun z => some (Value.ref z)) (hr)) ?_
    refine V.getf okX8 10 fl_X1_113 dX1_isWindyByNumber_14 (by decide) HT1.1 rfl ?_
    refine V.bipush (v := 100) dX1_isWindyByNumber_17 (by decide) ?_
    refine V.icmp_ne 40 dX1_isWindyByNumber_19 (by decide) (fun c19 => ?_) (fun c19 => ?_)
    · skip
      refine V.aload_n dX1_isWindyByNumber_40 rfl ?_
      refine V.aload_n dX1_isWindyByNumber_41 rfl ?_
      refine V.getf okX0 10 fl_X1_116 dX1_isWindyByNumber_42 (by decide) HC.1 rfl ?_
      refine V.i2l dX1_isWindyByNumber_45 ?_
      refine V.ldc2 kc_X1_119 dX1_isWindyByNumber_46 ?_
      refine V.lmul dX1_isWindyByNumber_49 ?_
      refine V.ldc2 kc_X1_121 dX1_isWindyByNumber_50 ?_
      refine V.ladd dX1_isWindyByNumber_53 ?_
      refine V.ldc2 kc_X1_123 dX1_isWindyByNumber_54 ?_
      refine V.land dX1_isWindyByNumber_57 ?_
      refine V.l2i dX1_isWindyByNumber_58 ?_
      refine V.putfH okX0 10 fl_X1_116 dX1_isWindyByNumber_59 (by decide) rfl HC.1 (rfl) (rfl) (Nat.le_of_ble_eq_true rfl) (fun h1 eh1 oh1 => ?_)
      have HC := isR.setI C0_ok HC 10 _ (fun _ _ => rfl) eh1 oh1
      have H := H.kept C1_ok (fun b hb1 hb2 => oh1 b (by have hb3 : b < _ := hb2; simp only [C1] at hb3; omega))
      have HT1 := HT1.kept C8_ok (fun b hb1 hb2 => oh1 b (by have hb3 : b < _ := hb2; simp only [C8] at hb3; omega))
      have hfr : ∀ b : Nat, (b < b0 ∨ b0 + 7 ≤ b) → h1 b = h b := fun b hb => (oh1 b (by omega)).trans (hfr b hb)
      refine V.aload_n dX1_isWindyByNumber_62 rfl ?_
      refine V.getf okX0 10 fl_X1_116 dX1_isWindyByNumber_63 (by decide) HC.1 rfl ?_
      refine V.ldc kc_X1_125 dX1_isWindyByNumber_66 ?_
      refine V.idiv dX1_isWindyByNumber_68 (by decide) ?_
      refine V.bipush (v := 100) dX1_isWindyByNumber_69 (by decide) ?_
      refine V.irem dX1_isWindyByNumber_71 (by decide) ?_
      refine V.aload_n dX1_isWindyByNumber_72 rfl ?_
      refine V.getf (v := .ref (t)) okX1 0 fl_X1_12 dX1_isWindyByNumber_73 (by decide) H.1 (congrArg (fun z => some (Value.ref z)) (hr)) ?_
      refine V.getf okX8 10 fl_X1_113 dX1_isWindyByNumber_76 (by decide) HT1.1 rfl ?_
      refine V.icmp_ge 86 dX1_isWindyByNumber_79 (by decide) (fun c79 => ?_) (fun c79 => ?_)
      · skip
        refine V.iconst (v := 0) dX1_isWindyByNumber_86 (by decide) ?_
        refine V.zret .boolean dX1_isWindyByNumber_87 rfl (rfl) ?_
        exact ⟨by unfold windN; rw [if_neg (by rintro (z | z) <;> contradiction)]; first | (have q : T.1.1 10 ≤ toldN (nextN (c.1 10)) := c79; rw [decide_eq_false (fun z => z q)]; rfl) | (have q : ¬ T.1.1 10 ≤ toldN (nextN (c.1 10)) := c79; rw [decide_eq_true q]; rfl), by unfold windN; rw [if_neg (by rintro (z | z) <;> contradiction)]; exact HC, hfr⟩
      · skip
        refine V.iconst (v := 1) dX1_isWindyByNumber_82 (by decide) ?_
        refine V.goto 87 dX1_isWindyByNumber_83 (by decide) ?_
        refine V.zret .boolean dX1_isWindyByNumber_87 rfl (rfl) ?_
        exact ⟨by unfold windN; rw [if_neg (by rintro (z | z) <;> contradiction)]; first | (have q : T.1.1 10 ≤ toldN (nextN (c.1 10)) := c79; rw [decide_eq_false (fun z => z q)]; rfl) | (have q : ¬ T.1.1 10 ≤ toldN (nextN (c.1 10)) := c79; rw [decide_eq_true q]; rfl), by unfold windN; rw [if_neg (by rintro (z | z) <;> contradiction)]; exact HC, hfr⟩
    · skip
      refine V.aload_n dX1_isWindyByNumber_22 rfl ?_
      refine V.getf (v := .ref (t)) okX1 0 fl_X1_12 dX1_isWindyByNumber_23 (by decide) H.1 (congrArg (fun z => some (Value.ref z)) (hr)) ?_
      refine V.getf okX8 10 fl_X1_113 dX1_isWindyByNumber_26 (by decide) HT1.1 rfl ?_
      refine V.bipush (v := 100) dX1_isWindyByNumber_29 (by decide) ?_
      refine V.icmp_ne 38 dX1_isWindyByNumber_31 (by decide) (fun c31 => ?_) (fun c31 => ?_)
      · skip
        refine V.iconst (v := 0) dX1_isWindyByNumber_38 (by decide) ?_
        refine V.zret .boolean dX1_isWindyByNumber_39 rfl (rfl) ?_
        exact ⟨by simp_all [windN, bI], by simpa [windN, *] using HC, hfr⟩
      · skip
        refine V.iconst (v := 1) dX1_isWindyByNumber_34 (by decide) ?_
        refine V.goto 39 dX1_isWindyByNumber_35 (by decide) ?_
        refine V.zret .boolean dX1_isWindyByNumber_39 rfl (rfl) ?_
        exact ⟨by simp_all [windN, bI], by simpa [windN, *] using HC, hfr⟩
set_option maxRecDepth 100000 in
set_option maxHeartbeats 1000000 in
theorem isWindy_V {d n0 : Nat} {κ : Kd} (hd : 2 ≤ d) {h : Hp} {a t b0 : Nat} {s c : St} {T : Tx} (H : isR C1 h a s) (hr : s.2.2.2 0 = t) (HT : isT h t T) (HC : isR C0 h b0 c) (hs1 : a < b0 ∨ b0 + 7 ≤ a) (hs2 : t + 19 ≤ b0 ∨ b0 + 7 ≤ t) : V MX1_isWindy (d, 0, 0, n0, κ) 0 0 h 0 [some (.ref a), some (.ref (b0))] [] (fun v h' => v = some (.int (bI (windK (s.1 1) T c).1)) ∧ isR C0 h' b0 (windK (s.1 1) T c).2 ∧ ∀ b : Nat, (b < b0 ∨ b0 + 7 ≤ b) → h' b = h b) := by
  obtain ⟨HT1, HT2, HT3, HT4⟩ := id HT
  have hfr : ∀ b : Nat, (b < b0 ∨ b0 + 7 ≤ b) → h b = h b := fun _ _ => rfl
  refine V.aload_n dX1_isWindy_0 rfl ?_
  refine V.getf okX1 1 fl_X1_22 dX1_isWindy_1 (by decide) H.1 rfl ?_
  refine V.tswG [(1, 32), (2, 38), (3, 40)] 42 dX1_isWindy_4 (by decide) (by decide +kernel) (fa_cons (fun cs4 => ?_) (fa_cons (fun cs4 => ?_) (fa_cons (fun cs4 => ?_) fa_nil))) (fun co4 => ?_)
  · skip
    refine V.aload_n dX1_isWindy_32 rfl ?_
    refine V.aload_n dX1_isWindy_33 rfl ?_
    refine V.cV1 (ci := 1) yoX1_isWindyByNumber ml_X1_106 im_X1_isWindyByNumber se_X1_isWindyByNumber dX1_isWindy_34 rfl H.1 (Nat.le_of_ble_eq_true rfl) (by omega) ⟨Nat.le_refl _, Nat.le_refl _⟩ rfl (Nat.le_of_ble_eq_true rfl) (windN_V (by omega) H hr HT HC hs1 hs2) ?_
    rintro _ h1 ⟨rfl, HC, oh1⟩
    have ooh1 := oh1
    have oh1 : ∀ b : Nat, ¬ (b0 ≤ b ∧ b < b0 + 7) → h1 b = h b := fun b hb => ooh1 b (by omega)
    have H := H.kept C1_ok (fun b hb1 hb2 => oh1 b (by have hb3 : b < _ := hb2; simp only [C1] at hb3; omega))
    have HT1 := HT1.kept C8_ok (fun b hb1 hb2 => oh1 b (by have hb3 : b < _ := hb2; simp only [C8] at hb3; omega))
    have hfr : ∀ b : Nat, (b < b0 ∨ b0 + 7 ≤ b) → h1 b = h b := fun b hb => (oh1 b (by omega)).trans (hfr b hb)
    refine V.zret .boolean dX1_isWindy_37 rfl (bI_n _) ?_
    exact ⟨by simp_all [windK, bI], by simp_all [windK], hfr⟩
  · skip
    refine V.iconst (v := 0) dX1_isWindy_38 (by decide) ?_
    refine V.zret .boolean dX1_isWindy_39 rfl (rfl) ?_
    exact ⟨by simp_all [windK, bI], by simp_all [windK], hfr⟩
  · skip
    refine V.iconst (v := 1) dX1_isWindy_40 (by decide) ?_
    refine V.zret .boolean dX1_isWindy_41 rfl (rfl) ?_
    exact ⟨by simp_all [windK, bI], by simp_all [windK], hfr⟩
  · skip
    refine V.aload_n dX1_isWindy_42 rfl ?_
    refine V.getf (v := .ref (t)) okX1 0 fl_X1_12 dX1_isWindy_43 (by decide) H.1 (congrArg (fun z => some (Value.ref z)) (hr)) ?_
    refine V.cV0 (ci := 8) yoX8_isWindyAsItGoes ml_X1_109 im_X8_isWindyAsItGoes se_X8_isWindyAsItGoes dX1_isWindy_46 rfl HT1.1 (Nat.le_of_ble_eq_true rfl) (by omega) ⟨Nat.le_refl _, Nat.le_refl _⟩ rfl (Nat.le_of_ble_eq_true rfl) (tWindy_V (by omega) HT1) (V.rdK ?_)
    refine V.zret .boolean dX1_isWindy_49 rfl (bI_n _) ?_
    exact ⟨by simp_all [windK, bI], by simp_all [windK], hfr⟩
set_option maxRecDepth 100000 in
set_option maxHeartbeats 1000000 in
theorem shine2_V {d n0 : Nat} {κ : Kd} (hd : 5 ≤ d) {h h2 : Hp} {a t b0 i : Nat} {s cs : St} {T : Tx} {windy : Bool} {x3 : Int32} {P : Option Value → Hp → Prop} (hr : s.2.2.2 0 = t) (hw : wfT T) (hs1 : a < b0 ∨ b0 + 7 ≤ a) (hs2 : t + 19 ≤ b0 ∨ b0 + 7 ≤ t) (hi : i < nat (T.1.1 0)) (H : isR C1 h2 a s) (HT1 : isR C8 h2 t T.1) (HT4 : isL h2 (t + 13) T.2.2.2) (HC : isR C0 h2 b0 cs) (hfr : ∀ b : Nat, ((b < b0 ∨ b0 + 7 ≤ b) ∧ (b < t + 13 ∨ t + 19 ≤ b)) → h2 b = h b) (hs3 : a < t ∨ t + 19 ≤ a) (kk : (∀ (h3 : Hp) (c3 : St), isR C1 h3 a s → isR C8 h3 t T.1 → isL h3 (t + 13) T.2.2.2 → isR C0 h3 b0 c3 → (∀ b : Nat, ((b < b0 ∨ b0 + 7 ≤ b) ∧ (b < t + 13 ∨ t + 19 ≤ b)) → h3 b = h b) → glowS T windy i cs = c3 → V MX1_shine (d, 0, 0, n0, κ) 0 0 h3 8 [some (.ref a), some (.ref (b0)), some (.int (bI windy)), some (.int (x3)), some (.int (nI (i + 1))), none, none, none, none] [] P)) : V MX1_shine (d, 0, 0, n0, κ) 0 0 h2 55 [some (.ref a), some (.ref (b0)), some (.int (bI windy)), some (.int (x3)), some (.int (nI i)), none, none, none, none] [] P := by
  refine V.aload_n dX1_shine_55 rfl ?_
  refine V.getf okX0 5 fl_X1_142 dX1_shine_56 (by decide) HC.1 rfl ?_
  refine V.iload dX1_shine_59 rfl ?_
  refine V.ialdN dX1_shine_61 (C0_r5 HC) (rfl) (by have := hw.1.2; omega) (by decide) ?_
  refine V.if_eq 134 dX1_shine_62 (by decide) (fun c62 => ?_) (fun c62 => ?_)
  · skip
    have hG : glowS T windy i cs = cs := by unfold glowS; rw [if_pos c62]
    refine V.iinc (v := 1) dX1_shine_134 rfl (by decide) (by decide) rfl ?_
    refine V.goto 8 dX1_shine_137 (by decide) ?_
    refine V.weak [some (.ref a), some (.ref (b0)), some (.int (bI windy)), some (.int (x3)), some (.int (nI (i + 1))), none, none, none, none] (by simp [leL, sto1, sto2, k2c, nI_1]) ?_
    first | exact kk h2 _ H HT1 HT4 HC hfr hG | exact kk h2 _ H HT1 HT4 HC hfr (by unfold glowS; rw [if_neg c62, hG]; rfl)
  · skip
    refine V.aload_n dX1_shine_65 rfl ?_
    refine V.getf (v := .ref (t)) okX1 0 fl_X1_12 dX1_shine_66 (by decide) H.1 (congrArg (fun z => some (Value.ref z)) (hr)) ?_
    refine V.getf okX8 9 fl_X1_55 dX1_shine_69 (by decide) HT1.1 rfl ?_
    refine V.iconst (v := 1) dX1_shine_72 (by decide) ?_
    refine V.aload_n dX1_shine_73 rfl ?_
    refine V.iload dX1_shine_74 rfl ?_
    refine V.iload_n dX1_shine_76 rfl ?_
    obtain ⟨g4, H4⟩ := id HT4
    refine V.cV4 (ci := 4) yoX4_worth ml_X1_59 im_X4_worth se_X4_worth dX1_shine_77 rfl H4.1 (Nat.le_of_ble_eq_true rfl) (by omega) ⟨Nat.le_refl _, Nat.le_refl _⟩ rfl (Nat.le_of_ble_eq_true rfl) (worthT_V (by omega) HT4 HC hw hs2 (by omega) (by decide)) ?_
    rintro _ h1 ⟨rfl, HT4, ooh1⟩
    have oh1 : ∀ b : Nat, ¬ (t + 13 ≤ b ∧ b < t + 19) → h1 b = h2 b := fun b hb => ooh1 b (by omega)
    have H := H.kept C1_ok (fun b hb1 hb2 => oh1 b (by have hb3 : b < _ := hb2; simp only [C1] at hb3; omega))
    have HC := HC.kept C0_ok (fun b hb1 hb2 => oh1 b (by have hb3 : b < _ := hb2; simp only [C0] at hb3; omega))
    have HT1 := HT1.kept C8_ok (fun b hb1 hb2 => oh1 b (by have hb3 : b < _ := hb2; simp only [C8] at hb3; omega))
    have hfr : ∀ b : Nat, ((b < b0 ∨ b0 + 7 ≤ b) ∧ (b < t + 13 ∨ t + 19 ≤ b)) → h1 b = h b := fun b hb => (oh1 b (by omega)).trans (hfr b hb)
    refine V.lstore dX1_shine_80 (by decide) rfl ?_
    refine V.aload_n dX1_shine_82 rfl ?_
    refine V.getf okX0 5 fl_X1_142 dX1_shine_83 (by decide) HC.1 rfl ?_
    refine V.iload dX1_shine_86 rfl ?_
    refine V.ialdN dX1_shine_88 (C0_r5 HC) (rfl) (by have := hw.1.2; omega) (by decide) ?_
    refine V.cS1 yoJ6_bitCount_0f7a4 ml_X1_145 st_J6_bitCount_0f7a4 dX1_shine_89 (Nat.le_of_ble_eq_true rfl) (by omega) ⟨Nat.le_refl _, Nat.le_refl _⟩ rfl (Nat.le_of_ble_eq_true rfl) (bitCountI_V (by omega)) (V.rdK ?_)
    refine V.istore dX1_shine_92 (by decide) rfl ?_
    refine V.lload dX1_shine_94 rfl ?_
    refine V.ldc2 kc_X1_53 dX1_shine_96 ?_
    refine V.lcmp dX1_shine_99 ?_
    refine V.if_ne 108 dX1_shine_100 (by decide) (fun c100 => ?_) (fun c100 => ?_)
    · skip
      have hG : glowN T windy i cs = withinI (tW T 1 cs i windy) 999 := by unfold glowN; rw [if_neg (show ¬ tW T 1 cs i windy = ERR from fun z => c100 ((lg_cmp_eq _ _).mpr z))]
      refine V.lload dX1_shine_108 rfl ?_
      refine V.sipush (v := 999) dX1_shine_110 (by decide) ?_
      refine V.cSN2 yoX11_within nw_X1_65 st_X11_within dX1_shine_113 (Nat.le_of_ble_eq_true rfl) (by omega) ⟨Nat.le_refl _, Nat.le_refl _⟩ rfl (Nat.le_of_ble_eq_true rfl) (within_V (by omega)) (V.rdK ?_)
      refine V.istore dX1_shine_116 (by decide) rfl ?_
      refine V.aload_n dX1_shine_118 rfl ?_
      refine V.ldc kc_X1_151 dX1_shine_119 ?_
      refine V.aload_n dX1_shine_121 rfl ?_
      refine V.getf okX0 8 fl_X1_152 dX1_shine_122 (by decide) HC.1 rfl ?_
      refine V.iload dX1_shine_125 rfl ?_
      refine V.iadd dX1_shine_127 ?_
      refine V.mmin ml_X1_136 st_J9_min_7cf53 ini_J9 co_J9_min_7cf53 dX1_shine_128 (by omega) (Nat.le_of_ble_eq_true rfl) ⟨Nat.le_refl _, Nat.le_refl _⟩ ?_
      refine V.putfH okX0 8 fl_X1_152 dX1_shine_131 (by decide) rfl HC.1 (rfl) (rfl) (Nat.le_of_ble_eq_true rfl) (fun h2 eh2 oh2 => ?_)
      have HC := isR.setI C0_ok HC 8 _ (fun _ _ => rfl) eh2 oh2
      have H := H.kept C1_ok (fun b hb1 hb2 => oh2 b (by have hb3 : b < _ := hb2; simp only [C1] at hb3; omega))
      have HT1 := HT1.kept C8_ok (fun b hb1 hb2 => oh2 b (by have hb3 : b < _ := hb2; simp only [C8] at hb3; omega))
      have HT4 := HT4.kept (fun b hb1 hb2 => oh2 b (by omega))
      have hfr : ∀ b : Nat, ((b < b0 ∨ b0 + 7 ≤ b) ∧ (b < t + 13 ∨ t + 19 ≤ b)) → h2 b = h b := fun b hb => (oh2 b (by omega)).trans (hfr b hb)
      refine V.iinc (v := 1) dX1_shine_134 rfl (by decide) (by decide) rfl ?_
      refine V.goto 8 dX1_shine_137 (by decide) ?_
      refine V.weak [some (.ref a), some (.ref (b0)), some (.int (bI windy)), some (.int (x3)), some (.int (nI (i + 1))), none, none, none, none] (by simp [leL, sto1, sto2, k2c, nI_1]) ?_
      first | exact kk h2 _ H HT1 HT4 HC hfr hG | exact kk h2 _ H HT1 HT4 HC hfr (by unfold glowS; rw [if_neg c62, hG]; rfl)
    · skip
      have hG : glowN T windy i cs = bcI (cs.2.1 5 i) := by unfold glowN; rw [if_pos (show tW T 1 cs i windy = ERR from (lg_cmp_eq _ _).mp c100)]
      refine V.iload dX1_shine_103 rfl ?_
      refine V.goto 116 dX1_shine_105 (by decide) ?_
      refine V.istore dX1_shine_116 (by decide) rfl ?_
      refine V.aload_n dX1_shine_118 rfl ?_
      refine V.ldc kc_X1_151 dX1_shine_119 ?_
      refine V.aload_n dX1_shine_121 rfl ?_
      refine V.getf okX0 8 fl_X1_152 dX1_shine_122 (by decide) HC.1 rfl ?_
      refine V.iload dX1_shine_125 rfl ?_
      refine V.iadd dX1_shine_127 ?_
      refine V.mmin ml_X1_136 st_J9_min_7cf53 ini_J9 co_J9_min_7cf53 dX1_shine_128 (by omega) (Nat.le_of_ble_eq_true rfl) ⟨Nat.le_refl _, Nat.le_refl _⟩ ?_
      refine V.putfH okX0 8 fl_X1_152 dX1_shine_131 (by decide) rfl HC.1 (rfl) (rfl) (Nat.le_of_ble_eq_true rfl) (fun h3 eh3 oh3 => ?_)
      have HC := isR.setI C0_ok HC 8 _ (fun _ _ => rfl) eh3 oh3
      have H := H.kept C1_ok (fun b hb1 hb2 => oh3 b (by have hb3 : b < _ := hb2; simp only [C1] at hb3; omega))
      have HT1 := HT1.kept C8_ok (fun b hb1 hb2 => oh3 b (by have hb3 : b < _ := hb2; simp only [C8] at hb3; omega))
      have HT4 := HT4.kept (fun b hb1 hb2 => oh3 b (by omega))
      have hfr : ∀ b : Nat, ((b < b0 ∨ b0 + 7 ≤ b) ∧ (b < t + 13 ∨ t + 19 ≤ b)) → h3 b = h b := fun b hb => (oh3 b (by omega)).trans (hfr b hb)
      refine V.iinc (v := 1) dX1_shine_134 rfl (by decide) (by decide) rfl ?_
      refine V.goto 8 dX1_shine_137 (by decide) ?_
      refine V.weak [some (.ref a), some (.ref (b0)), some (.int (bI windy)), some (.int (x3)), some (.int (nI (i + 1))), none, none, none, none] (by simp [leL, sto1, sto2, k2c, nI_1]) ?_
      first | exact kk h3 _ H HT1 HT4 HC hfr hG | exact kk h3 _ H HT1 HT4 HC hfr (by unfold glowS; rw [if_neg c62, hG]; rfl)
set_option maxRecDepth 100000 in
set_option maxHeartbeats 1000000 in
theorem shine_V {d n0 : Nat} {κ : Kd} (hd : 6 ≤ d) {h : Hp} {a t b0 : Nat} {s c : St} {T : Tx} {windy : Bool} (H : isR C1 h a s) (hr : s.2.2.2 0 = t) (HT : isT h t T) (HC : isR C0 h b0 c) (hs1 : a < b0 ∨ b0 + 7 ≤ a) (hs2 : t + 19 ≤ b0 ∨ b0 + 7 ≤ t) (hw : wfT T) (hp : c.1 0 = nI (nat (T.1.1 0))) (hs3 : a < t ∨ t + 19 ≤ a) : V MX1_shine (d, 0, 0, n0, κ) 0 0 h 0 [some (.ref a), some (.ref (b0)), some (.int (bI windy)), none, none, none, none, none, none] [] (fun v h' => v = none ∧ isR C0 h' b0 (shineF T windy (litM (c.2.1 5) (nat (T.1.1 0))) (nat (T.1.1 0)) 0 c) ∧ isL h' (t + 13) T.2.2.2 ∧ ∀ b : Nat, ((b < b0 ∨ b0 + 7 ≤ b) ∧ (b < t + 13 ∨ t + 19 ≤ b)) → h' b = h b) := by
  obtain ⟨HT1, HT2, HT3, HT4⟩ := HT
  refine V.aload_n dX1_shine_0 rfl ?_
  refine V.cV0 (ci := 0) yoX0_litMen ml_X1_126 im_X0_litMen se_X0_litMen dX1_shine_1 rfl HC.1 (Nat.le_of_ble_eq_true rfl) (by omega) ⟨Nat.le_refl _, Nat.le_refl _⟩ rfl (Nat.le_of_ble_eq_true rfl) (litMen_V (by omega) HC hp (by have := hw.1.2; omega)) (V.rdK ?_)
  refine V.istore_n dX1_shine_4 (by decide) rfl ?_
  refine V.iconst (v := nI 0) dX1_shine_5 (by decide) ?_
  refine V.istore dX1_shine_6 (by decide) rfl ?_
  suffices hL : ∀ (k i : Nat) (h2 : Hp) (c2 : St), i + k = nat (T.1.1 0) → isR C1 h2 a s → isR C8 h2 t T.1 → isL h2 (t + 13) T.2.2.2 → isR C0 h2 b0 c2 → (∀ b : Nat, ((b < b0 ∨ b0 + 7 ≤ b) ∧ (b < t + 13 ∨ t + 19 ≤ b)) → h2 b = h b) → shineF T windy (litM (c.2.1 5) (nat (T.1.1 0))) k i c2 = shineF T windy (litM (c.2.1 5) (nat (T.1.1 0))) (nat (T.1.1 0)) 0 c → V MX1_shine (d, 0, 0, n0, κ) 0 0 h2 8 [some (.ref a), some (.ref (b0)), some (.int (bI windy)), some (.int (litM (c.2.1 5) (nat (T.1.1 0)))), some (.int (nI i)), none, none, none, none] [] (fun v h' => v = none ∧ isR C0 h' b0 (shineF T windy (litM (c.2.1 5) (nat (T.1.1 0))) (nat (T.1.1 0)) 0 c) ∧ isL h' (t + 13) T.2.2.2 ∧ ∀ b : Nat, ((b < b0 ∨ b0 + 7 ≤ b) ∧ (b < t + 13 ∨ t + 19 ≤ b)) → h' b = h b) from hL _ 0 h c (by omega) H HT1 HT4 HC (fun _ _ => rfl) rfl
  intro k
  induction k with
  | zero =>
    intro i h2 c2 hik H HT1 HT4 HC hfr hv
    refine V.iload dX1_shine_8 rfl ?_
    refine V.aload_n dX1_shine_10 rfl ?_
    refine V.getf (v := .ref (t)) okX1 0 fl_X1_12 dX1_shine_11 (by decide) H.1 (congrArg (fun z => some (Value.ref z)) (hr)) ?_
    refine V.getf okX8 0 fl_X1_44 dX1_shine_14 (by decide) HT1.1 rfl ?_
    refine V.icmp_ge 140 dX1_shine_17 (by decide) (fun _ => ?_) (fun z => absurd (by show T.1.1 0 ≤ nI i; rw [hw.1.1, show i = nat (T.1.1 0) by omega]; exact nI_le (Nat.le_refl _) (by have := hw.1.2; omega)) z)
    refine V.vret dX1_shine_140 rfl ?_
    exact ⟨rfl, by rw [← hv]; exact HC, HT4, hfr⟩
  | succ k ih =>
    intro i h2 c2 hik H HT1 HT4 HC hfr hv
    refine V.iload dX1_shine_8 rfl ?_
    refine V.aload_n dX1_shine_10 rfl ?_
    refine V.getf (v := .ref (t)) okX1 0 fl_X1_12 dX1_shine_11 (by decide) H.1 (congrArg (fun z => some (Value.ref z)) (hr)) ?_
    refine V.getf okX8 0 fl_X1_44 dX1_shine_14 (by decide) HT1.1 rfl ?_
    refine V.icmp_ge 140 dX1_shine_17 (by decide) (fun z => absurd z (by show ¬ T.1.1 0 ≤ nI i; rw [hw.1.1]; exact nI_ge (by omega) (by have := hw.1.2; omega))) (fun _ => ?_)
    refine V.aload_n dX1_shine_20 rfl ?_
    refine V.getf (v := .ref (t)) okX1 0 fl_X1_12 dX1_shine_21 (by decide) H.1 (congrArg (fun z => some (Value.ref z)) (hr)) ?_
    refine V.iload_n dX1_shine_24 rfl ?_
    refine V.iload dX1_shine_25 rfl ?_
    refine V.cV2 (ci := 8) yoX8_isSeeing ml_X1_130 im_X8_isSeeing se_X8_isSeeing dX1_shine_27 rfl HT1.1 (Nat.le_of_ble_eq_true rfl) (by omega) ⟨Nat.le_refl _, Nat.le_refl _⟩ rfl (Nat.le_of_ble_eq_true rfl) (tSees_V (by omega) HT1 (by have := hw.1.2; omega)) (V.rdK ?_)
    refine V.if_eq 55 dX1_shine_30 (by decide) (fun c30 => ?_) (fun c30 => ?_)
    · skip
      have hE : seenS T (litM (c.2.1 5) (nat (T.1.1 0))) i c2 = c2 := by unfold seenS; rw [if_neg (by rw [bI_f c30]; decide)]
      have HC : isR C0 h2 b0 (seenS T (litM (c.2.1 5) (nat (T.1.1 0))) i c2) := by rw [hE]; exact HC
      generalize hcs : seenS T (litM (c.2.1 5) (nat (T.1.1 0))) i c2 = cs at HC hE
      refine V.weak [some (.ref a), some (.ref (b0)), some (.int (bI windy)), some (.int (litM (c.2.1 5) (nat (T.1.1 0)))), some (.int (nI i)), none, none, none, none] (by simp [leL, sto1, sto2, k2c]) ?_
      exact shine2_V (d := d) (n0 := n0) (κ := κ) (by omega) hr hw hs1 hs2 (by omega) H HT1 HT4 HC hfr hs3 (fun h3 c3 q1 q2 q3 q4 q5 q6 => ih (i + 1) h3 c3 (by omega) q1 q2 q3 q4 q5 (by rw [← hv, shineF, ← q6, hcs]))
    · skip
      have hE : seenS T (litM (c.2.1 5) (nat (T.1.1 0))) i c2 = (c2.1, uA c2.2.1 6 i (cMin 9999 (c2.2.1 6 i + 1)), c2.2.2) := by unfold seenS; rw [if_pos (bI_t c30)]
      refine V.aload_n dX1_shine_33 rfl ?_
      refine V.getf okX0 6 fl_X1_133 dX1_shine_34 (by decide) HC.1 rfl ?_
      refine V.iload dX1_shine_37 rfl ?_
      refine V.sipush (v := 9999) dX1_shine_39 (by decide) ?_
      refine V.aload_n dX1_shine_42 rfl ?_
      refine V.getf okX0 6 fl_X1_133 dX1_shine_43 (by decide) HC.1 rfl ?_
      refine V.iload dX1_shine_46 rfl ?_
      refine V.ialdN dX1_shine_48 (C0_r6 HC) (rfl) (by have := hw.1.2; omega) (by decide) ?_
      refine V.iconst (v := 1) dX1_shine_49 (by decide) ?_
      refine V.iadd dX1_shine_50 ?_
      refine V.mmin ml_X1_136 st_J9_min_7cf53 ini_J9 co_J9_min_7cf53 dX1_shine_51 (by omega) (Nat.le_of_ble_eq_true rfl) ⟨Nat.le_refl _, Nat.le_refl _⟩ ?_
      refine V.iastH dX1_shine_54 (C0_r6 HC) (rfl) (by have := hw.1.2; omega) (by decide) (fun h1 eh1 oh1 => ?_)
      have HC := isR.setA C0_ok HC C0_in6 (by decide) _ _ eh1 oh1
      have H := H.kept C1_ok (fun b hb1 hb2 => oh1 b (by have hb3 : b < _ := hb2; simp only [C1] at hb3; omega))
      have HT1 := HT1.kept C8_ok (fun b hb1 hb2 => oh1 b (by have hb3 : b < _ := hb2; simp only [C8] at hb3; omega))
      have HT4 := HT4.kept (fun b hb1 hb2 => oh1 b (by omega))
      have hfr : ∀ b : Nat, ((b < b0 ∨ b0 + 7 ≤ b) ∧ (b < t + 13 ∨ t + 19 ≤ b)) → h1 b = h b := fun b hb => (oh1 b (by omega)).trans (hfr b hb)
      have HC : isR C0 h1 b0 (seenS T (litM (c.2.1 5) (nat (T.1.1 0))) i c2) := by rw [hE]; exact HC
      generalize hcs : seenS T (litM (c.2.1 5) (nat (T.1.1 0))) i c2 = cs at HC hE
      refine V.weak [some (.ref a), some (.ref (b0)), some (.int (bI windy)), some (.int (litM (c.2.1 5) (nat (T.1.1 0)))), some (.int (nI i)), none, none, none, none] (by simp [leL, sto1, sto2, k2c]) ?_
      exact shine2_V (d := d) (n0 := n0) (κ := κ) (by omega) hr hw hs1 hs2 (by omega) H HT1 HT4 HC hfr hs3 (fun h3 c3 q1 q2 q3 q4 q5 q6 => ih (i + 1) h3 c3 (by omega) q1 q2 q3 q4 q5 (by rw [← hv, shineF, ← q6, hcs]))
