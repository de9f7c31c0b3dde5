/-! TextReading: parts and signs -/
theorem knotP_t {S : PS} (h : (knotP S).1 = true) : knotP S = (true, setL S (lKnot (lawsOf S))) ∧ (lawsOf S).1 0 < 64 := by
  unfold knotP at h ⊢
  by_cases q : (lawsOf S).1 0 < 64
  · rw [if_pos q]; exact ⟨rfl, q⟩
  · rw [if_neg q] at h; cases h
/-- a knot is free -/
def gapS (S : PS) : Prop := nat ((lawsOf S).1 1) + nonO S.2.2.2.2.1 < nat ((lawsOf S).1 0)
theorem okS_leaf {n : Nat} {S : PS} {k v : Int32} (ok : okE n S) (g : gapS S) : nat ((lawsOf S).1 1) < 64 ∧ okE n (setL S (lPlace (lawsOf S) (nat ((lawsOf S).1 1)) k v)) := by
  obtain ⟨h1, h2, h3, h4, h5⟩ := ok.2.2.2.2
  have h6 : nat ((lawsOf S).1 0) < 65 := h1.2
  unfold gapS at g
  have e : (lPlace (lawsOf S) (nat ((lawsOf S).1 1)) k v).1 1 = nI (nat ((lawsOf S).1 1) + 1) := rfl
  have e2 : nat ((lPlace (lawsOf S) (nat ((lawsOf S).1 1)) k v).1 1) = nat ((lawsOf S).1 1) + 1 := by rw [e]; exact nI_clamp (by omega)
  exact ⟨by omega, ok.1, ok.2.1, ok.2.2.1, ok.2.2.2.1, h1, okN.of e (by omega) (by decide), by show nat ((lPlace (lawsOf S) (nat ((lawsOf S).1 1)) k v).1 1) + nonO S.2.2.2.2.1 ≤ nat ((lawsOf S).1 0); omega, h4, h5⟩
theorem okS_push {n : Nat} {S : PS} {k : Int32} (ok : okE n S) (g : gapS S) (hk : ¬ k = 31) : S.2.2.2.2.1.length < 72 ∧ okE n (pushP k S) := by
  obtain ⟨h1, h2, h3, h4, h5⟩ := ok.2.2.2.2
  have h6 : nat ((lawsOf S).1 0) < 65 := h1.2
  have h7 := lenO S.2.2.2.2.1
  unfold gapS at g
  exact ⟨by omega, ok.1, ok.2.1, ok.2.2.1, ok.2.2.2.1, h1, h2, by show nat ((lawsOf S).1 1) + nonO (k :: S.2.2.2.2.1) ≤ nat ((lawsOf S).1 0); rw [nonO_c _ hk]; omega, by show opnO (k :: S.2.2.2.2.1) = _; rw [opnO_c _ hk]; exact h4, h5⟩
def opnP (S : PS) : PS := (S.1, S.2.1, S.2.2.1, S.2.2.2.1, S.2.2.2.2.1, S.2.2.2.2.2 + 1)
theorem okS_open {n : Nat} {S : PS} (ok : okE n S) (h : S.2.2.2.2.2 < 8) : S.2.2.2.2.1.length < 72 ∧ okE n (pushP 31 (opnP S)) := by
  obtain ⟨h1, h2, h3, h4, h5⟩ := ok.2.2.2.2
  have h6 : nat ((lawsOf S).1 0) < 65 := h1.2
  have h7 := lenO S.2.2.2.2.1
  have h3' : nat ((lawsOf S).1 1) + nonO S.2.2.2.2.1 ≤ nat ((lawsOf S).1 0) := h3
  exact ⟨by omega, ok.1, ok.2.1, ok.2.2.1, ok.2.2.2.1, h1, h2, by show nat ((lawsOf S).1 1) + nonO (31 :: S.2.2.2.2.1) ≤ nat ((lawsOf S).1 0); rw [nonO_o]; exact h3', by show opnO (31 :: S.2.2.2.2.1) = S.2.2.2.2.2 + 1; rw [opnO_o, h4], by show S.2.2.2.2.2 + 1 ≤ 8; omega⟩
theorem gapS_place {S : PS} {lv : Int32} (hlv : 0 < lv) {n : Nat} (ok : okE n S) (g : gapS S) : gapS (placeP lv S) := by
  suffices h : ∀ (l : List Int32) (L : St), okL L l (opnO l) → nat (L.1 1) + nonO l < nat (L.1 0) → nat ((popTo lv l L).1.1 1) + nonO (popTo lv l L).2 < nat ((popTo lv l L).1.1 0) from h _ _ ⟨ok.2.2.2.2.1, ok.2.2.2.2.2.1, ok.2.2.2.2.2.2.1, rfl, by have := ok.2.2.2.2.2.2.2; rw [this.1]; exact this.2⟩ g
  intro l
  induction l with
  | nil => intro L _ h; exact h
  | cons x l ih =>
    intro L o h
    unfold popTo
    by_cases q : lvl x < lv
    · rw [if_pos q]; exact h
    · rw [if_neg q]
      have hx : ¬ x = 31 := fun z => q (by rw [z]; exact hlv)
      have h8 := okL_pop o hx
      rw [opnO_c l hx] at h8
      refine ih _ h8.2 ?_
      have e2 : nat ((lPlace L (nat (L.1 1)) x 0).1 1) = nat (L.1 1) + 1 := by
        rw [show (lPlace L (nat (L.1 1)) x 0).1 1 = nI (nat (L.1 1) + 1) from rfl]
        exact nI_clamp (by omega)
      rw [nonO_c l hx] at h
      rw [e2]
      show nat (L.1 1) + 1 + nonO l < nat (L.1 0)
      omega
def leaf3 (k v : Int32) (S : PS) : Bool × PS := (true, setL S (lPlace (lawsOf S) (nat ((lawsOf S).1 1)) k v))
def leaf2 (S : PS) : Bool × PS := bindP (knotP S) (leaf3 S.1.2.1 S.1.2.2.2)
def leafP (S : PS) : Bool × PS := if S.1.2.1 = -3 then (if S.1.2.2.2 ≤ 9999 then leaf2 S else (false, failP 2 S)) else if S.1.2.1 < 11 then (false, failP 1 S) else if S.1.2.1 ≤ 17 then leaf2 S else (false, failP 1 S)
def not2 (S : PS) : Bool × PS := (true, pushP 20 S)
def partP (m : Bool) (S : PS) : Bool × PS := if S.1.2.1 = 31 then (if S.2.2.2.2.2 < 8 then (true, pushP 31 (opnP S)) else (false, failP 2 S)) else if S.1.2.1 = 20 then (if m = true then bindP (knotP S) not2 else leafP S) else leafP S
def clashB (k : Int32) (S : PS) : Bool := match S.2.2.2.2.1 with
  | [] => false
  | x :: _ => decide (lvl x = lvl k)
def bin3 (k : Int32) (S : PS) : Bool × PS := (true, pushP k (placeP (lvl k) S))
def bin2 (k : Int32) (S : PS) : Bool × PS := bindP (knotP S) (bin3 k)
def binP (k : Int32) (S : PS) : Bool × PS := if lvl k = lvl 35 then (if clashB k (placeP (lvl k + 1) S) = true then (false, failP 1 (placeP (lvl k + 1) S)) else bin2 k (placeP (lvl k + 1) S)) else bin2 k (placeP (lvl k + 1) S)
theorem placeP_V {d n0 : Nat} {κ : Kd} (hd : 3 ≤ d) {h : Hp} {a t tp n : Nat} {b : Nat → Int32} {S : PS} (HP : isP h a t tp n b S) (hs : sepP a t tp) {lv : Int32} (hlv : 0 < lv) (ok : okE n S) : V MX6_placeDownTo (d, 0, 0, n0, κ) 0 0 h 0 [some (.ref a), some (.int (lv))] [] (fun v h' => v = none ∧ isP h' a t tp n b (placeP lv S) ∧ ∀ x : Nat, ((x < a ∨ a + 23 ≤ x) ∧ (x < t ∨ t + 19 ≤ x)) → h' x = h x) := by
  obtain ⟨q, ⟨T1, T2, T3, L⟩, f, p, l, o⟩ := S
  exact place_V hd hlv hs l L h ok.2.2.2.2 HP (fun _ _ => rfl)
set_option maxRecDepth 100000 in
set_option maxHeartbeats 2000000 in
theorem leaf2_V {d n0 : Nat} {κ : Kd} (hd : 3 ≤ d) {h : Hp} {a t tp n : Nat} {b : Nat → Int32} {S : PS} (HP : isP h a t tp n b S) (hs : sepP a t tp) (okQ : okE n S) {x1 : Option Value} : V MX6_takesPart (d, 0, 0, n0, κ) 0 0 h 121 [some (.ref a), x1, some (.int (S.1.2.1))] [] (fun v h' => v = some (.int (bI (leaf2 S).1)) ∧ isP h' a t tp n b (leaf2 S).2 ∧ ∀ x : Nat, ((x < a ∨ a + 23 ≤ x) ∧ (x < t ∨ t + 19 ≤ x)) → h' x = h x) := by
  obtain ⟨s, H, hr, e0, e1, e4, e5, e6, HK, HT, hb⟩ := id HP
  obtain ⟨sk, K, kr, k1, k2, k3, k4, k5⟩ := id HK
  obtain ⟨HT1, HT2, HT3, HT4⟩ := id HT
  have sp1 := hs.1
  have sp2 := hs.2.1
  have sp3 := hs.2.2
  have hfr : ∀ x : Nat, ((x < a ∨ a + 23 ≤ x) ∧ (x < t ∨ t + 19 ≤ x)) → h x = h x := fun _ _ => rfl
  refine V.aload_n dX6_takesPart_121 rfl ?_
  refine V.cV0 (ci := 6) yoX6_takesKnot ml_X6_194 im_X6_takesKnot se_X6_takesKnot dX6_takesPart_122 rfl H.1 (Nat.le_of_ble_eq_true rfl) (by omega) ⟨Nat.le_refl _, Nat.le_refl _⟩ rfl (Nat.le_of_ble_eq_true rfl) (knot_V (S := S) (by omega) HP hs) ?_
  rintro _ h1 ⟨rfl, HP, oh1⟩
  have hfr : ∀ x : Nat, ((x < a ∨ a + 23 ≤ x) ∧ (x < t ∨ t + 19 ≤ x)) → h1 x = h x := fun x hx => (oh1 x hx).trans (hfr x hx)
  obtain ⟨s, H, hr, e0, e1, e4, e5, e6, HK, HT, hb⟩ := id HP
  obtain ⟨sk, K, kr, k1, k2, k3, k4, k5⟩ := id HK
  obtain ⟨HT1, HT2, HT3, HT4⟩ := id HT
  refine V.if_ne 130 dX6_takesPart_125 (by decide) (fun c125 => ?_) (fun c125 => ?_)
  · skip
    have q125 := knotP_t (bI_t c125)
    rw [q125.1] at HP
    have hK := okS_knot okQ q125.2
    obtain ⟨S1, hS1⟩ : ∃ x, x = setL S (lKnot (lawsOf S)) := ⟨_, rfl⟩
    have e1S : S1.1 = S.1 := by rw [hS1]; rfl
    have okS1 : okE n S1 := by rw [hS1]; exact hK.1
    have gap1 : gapS S1 := by rw [hS1]; exact hK.2
    rw [← hS1] at q125
    rw [← hS1] at HP
    obtain ⟨s, H, hr, e0, e1, e4, e5, e6, HK, HT, hb⟩ := id HP
    obtain ⟨sk, K, kr, k1, k2, k3, k4, k5⟩ := id HK
    obtain ⟨HT1, HT2, HT3, HT4⟩ := id HT
    refine V.aload_n dX6_takesPart_130 rfl ?_
    refine V.getf (v := .ref (t)) okX6 3 fl_X6_25 dX6_takesPart_131 (by decide) H.1 (congrArg (fun z => some (Value.ref z)) (hr)) ?_
    refine V.getf okX8 9 fl_X6_152 dX6_takesPart_134 (by decide) HT1.1 rfl ?_
    refine V.iload_n dX6_takesPart_137 rfl ?_
    refine V.aload_n dX6_takesPart_138 rfl ?_
    refine V.getf okX6 2 fl_X6_18 dX6_takesPart_139 (by decide) H.1 rfl ?_
    refine V.getf okX7 5 fl_X6_63 dX6_takesPart_142 (by decide) K.1 rfl ?_
    rw [k5, e1S]
    obtain ⟨g4, H4⟩ := id HT4
    refine V.cV2 (ci := 4) yoX4_place ml_X6_197 im_X4_place se_X4_place dX6_takesPart_145 rfl H4.1 (Nat.le_of_ble_eq_true rfl) (by omega) ⟨Nat.le_refl _, Nat.le_refl _⟩ rfl (Nat.le_of_ble_eq_true rfl) (lPlace_V (z := nat ((lawsOf S1).1 1)) (by omega) H4 okS1.2.2.2.2.2.1.1 (okS_leaf (k := 0) (v := 0) okS1 gap1).1) ?_
    rintro _ h2 ⟨rfl, HL, ooh2⟩
    obtain ⟨HP, oh2⟩ := isP.told HP hs (isT.laws (L := lPlace (lawsOf S1) (nat ((lawsOf S1).1 1)) S.1.2.1 S.1.2.2.2) HT ⟨g4, HL⟩ ooh2)
    have hfr : ∀ x : Nat, ((x < a ∨ a + 23 ≤ x) ∧ (x < t ∨ t + 19 ≤ x)) → h2 x = h x := fun x hx => (oh2 x hx).trans (hfr x hx)
    
    refine V.iconst (v := 1) dX6_takesPart_148 (by decide) ?_
    refine V.zret .boolean dX6_takesPart_149 rfl (rfl) ?_
    have hE : leaf2 S = (true, setL S1 (lPlace (lawsOf S1) (nat ((lawsOf S1).1 1)) S.1.2.1 S.1.2.2.2)) := bindP_k q125.1
    exact ⟨by rw [hE]; rfl, by rw [hE]; exact HP, hfr⟩
  · skip
    have q125 := bI_f c125
    refine V.iconst (v := 0) dX6_takesPart_128 (by decide) ?_
    refine V.zret .boolean dX6_takesPart_129 rfl (rfl) ?_
    have hE : leaf2 S = knotP S := bindP_f q125
    exact ⟨by rw [hE, q125]; rfl, by rw [hE]; exact HP, hfr⟩
set_option maxRecDepth 100000 in
set_option maxHeartbeats 2000000 in
theorem leaf_V {d n0 : Nat} {κ : Kd} (hd : 4 ≤ d) {h : Hp} {a t tp n : Nat} {b : Nat → Int32} {S : PS} (HP : isP h a t tp n b S) (hs : sepP a t tp) (okQ : okE n S) {x1 : Option Value} : V MX6_takesPart (d, 0, 0, n0, κ) 0 0 h 72 [some (.ref a), x1, some (.int (S.1.2.1))] [] (fun v h' => v = some (.int (bI (leafP S).1)) ∧ isP h' a t tp n b (leafP S).2 ∧ ∀ x : Nat, ((x < a ∨ a + 23 ≤ x) ∧ (x < t ∨ t + 19 ≤ x)) → h' x = h x) := by
  obtain ⟨s, H, hr, e0, e1, e4, e5, e6, HK, HT, hb⟩ := id HP
  obtain ⟨sk, K, kr, k1, k2, k3, k4, k5⟩ := id HK
  obtain ⟨HT1, HT2, HT3, HT4⟩ := id HT
  have sp1 := hs.1
  have sp2 := hs.2.1
  have sp3 := hs.2.2
  have hfr : ∀ x : Nat, ((x < a ∨ a + 23 ≤ x) ∧ (x < t ∨ t + 19 ≤ x)) → h x = h x := fun _ _ => rfl
  refine V.iload_n dX6_takesPart_72 rfl ?_
  refine V.bipush (v := (-3)) dX6_takesPart_73 (by decide) ?_
  refine V.icmp_eq 96 dX6_takesPart_75 (by decide) (fun c75 => ?_) (fun c75 => ?_)
  · skip
    have q75 : S.1.2.1 = -3 := c75
    refine V.iload_n dX6_takesPart_96 rfl ?_
    refine V.bipush (v := (-3)) dX6_takesPart_97 (by decide) ?_
    refine V.icmp_ne 121 dX6_takesPart_99 (by decide) (fun z => absurd (q75) z) (fun _ => ?_)
    refine V.aload_n dX6_takesPart_102 rfl ?_
    refine V.getf okX6 2 fl_X6_18 dX6_takesPart_103 (by decide) H.1 rfl ?_
    refine V.getf okX7 5 fl_X6_63 dX6_takesPart_106 (by decide) K.1 rfl ?_
    refine V.sipush (v := 9999) dX6_takesPart_109 (by decide) ?_
    rw [k5]
    refine V.icmp_le 121 dX6_takesPart_112 (by decide) (fun c112 => ?_) (fun c112 => ?_)
    · skip
      have q112 : S.1.2.2.2 ≤ 9999 := c112
      rw [show leafP S = leaf2 S from by unfold leafP; rw [if_pos q75, if_pos q112]]
      exact leaf2_V (by omega) HP hs okQ
    · skip
      have q112 : ¬ S.1.2.2.2 ≤ 9999 := c112
      refine V.aload_n dX6_takesPart_115 rfl ?_
      refine V.iconst (v := 2) dX6_takesPart_116 (by decide) ?_
      refine V.cV1 (ci := 6) yoX6_fails ml_X6_60 im_X6_fails se_X6_fails dX6_takesPart_117 rfl H.1 (Nat.le_of_ble_eq_true rfl) (by omega) ⟨Nat.le_refl _, Nat.le_refl _⟩ rfl (Nat.le_of_ble_eq_true rfl) (fails_V (S := S) (k := 2) (by omega) HP hs) ?_
      rintro _ h21 ⟨rfl, HP, oh21⟩
      have hfr : ∀ x : Nat, ((x < a ∨ a + 23 ≤ x) ∧ (x < t ∨ t + 19 ≤ x)) → h21 x = h x := fun x hx => (oh21 x hx).trans (hfr x hx)
      obtain ⟨s, H, hr, e0, e1, e4, e5, e6, HK, HT, hb⟩ := id HP
      obtain ⟨sk, K, kr, k1, k2, k3, k4, k5⟩ := id HK
      obtain ⟨HT1, HT2, HT3, HT4⟩ := id HT
      refine V.zret .boolean dX6_takesPart_120 rfl (rfl) ?_
      have hE : leafP S = (false, failP 2 S) := by unfold leafP; rw [if_pos q75, if_neg q112]
      exact ⟨by rw [hE]; rfl, by rw [hE]; exact HP, hfr⟩
  · skip
    have q75 : ¬ S.1.2.1 = -3 := c75
    refine V.iload_n dX6_takesPart_78 rfl ?_
    refine V.bipush (v := 11) dX6_takesPart_79 (by decide) ?_
    refine V.icmp_lt 90 dX6_takesPart_81 (by decide) (fun c81 => ?_) (fun c81 => ?_)
    · skip
      have q81 : S.1.2.1 < 11 := c81
      refine V.aload_n dX6_takesPart_90 rfl ?_
      refine V.iconst (v := 1) dX6_takesPart_91 (by decide) ?_
      refine V.cV1 (ci := 6) yoX6_fails ml_X6_60 im_X6_fails se_X6_fails dX6_takesPart_92 rfl H.1 (Nat.le_of_ble_eq_true rfl) (by omega) ⟨Nat.le_refl _, Nat.le_refl _⟩ rfl (Nat.le_of_ble_eq_true rfl) (fails_V (S := S) (k := 1) (by omega) HP hs) ?_
      rintro _ h1 ⟨rfl, HP, oh1⟩
      have hfr : ∀ x : Nat, ((x < a ∨ a + 23 ≤ x) ∧ (x < t ∨ t + 19 ≤ x)) → h1 x = h x := fun x hx => (oh1 x hx).trans (hfr x hx)
      obtain ⟨s, H, hr, e0, e1, e4, e5, e6, HK, HT, hb⟩ := id HP
      obtain ⟨sk, K, kr, k1, k2, k3, k4, k5⟩ := id HK
      obtain ⟨HT1, HT2, HT3, HT4⟩ := id HT
      refine V.zret .boolean dX6_takesPart_95 rfl (rfl) ?_
      have hE : leafP S = (false, failP 1 S) := by
        unfold leafP
        rw [if_neg q75]
        first | rw [if_pos q81] | rw [if_neg q81, if_neg q87]
      exact ⟨by rw [hE]; rfl, by rw [hE]; exact HP, hfr⟩
    · skip
      have q81 : ¬ S.1.2.1 < 11 := c81
      refine V.iload_n dX6_takesPart_84 rfl ?_
      refine V.bipush (v := 17) dX6_takesPart_85 (by decide) ?_
      refine V.icmp_le 96 dX6_takesPart_87 (by decide) (fun c87 => ?_) (fun c87 => ?_)
      · skip
        have q87 : S.1.2.1 ≤ 17 := c87
        refine V.iload_n dX6_takesPart_96 rfl ?_
        refine V.bipush (v := (-3)) dX6_takesPart_97 (by decide) ?_
        refine V.icmp_ne 121 dX6_takesPart_99 (by decide) (fun _ => ?_) (fun z => absurd z (q75))
        rw [show leafP S = leaf2 S from by unfold leafP; rw [if_neg q75, if_neg q81, if_pos q87]]
        exact leaf2_V (by omega) HP hs okQ
      · skip
        have q87 : ¬ S.1.2.1 ≤ 17 := c87
        refine V.aload_n dX6_takesPart_90 rfl ?_
        refine V.iconst (v := 1) dX6_takesPart_91 (by decide) ?_
        refine V.cV1 (ci := 6) yoX6_fails ml_X6_60 im_X6_fails se_X6_fails dX6_takesPart_92 rfl H.1 (Nat.le_of_ble_eq_true rfl) (by omega) ⟨Nat.le_refl _, Nat.le_refl _⟩ rfl (Nat.le_of_ble_eq_true rfl) (fails_V (S := S) (k := 1) (by omega) HP hs) ?_
        rintro _ h2 ⟨rfl, HP, oh2⟩
        have hfr : ∀ x : Nat, ((x < a ∨ a + 23 ≤ x) ∧ (x < t ∨ t + 19 ≤ x)) → h2 x = h x := fun x hx => (oh2 x hx).trans (hfr x hx)
        obtain ⟨s, H, hr, e0, e1, e4, e5, e6, HK, HT, hb⟩ := id HP
        obtain ⟨sk, K, kr, k1, k2, k3, k4, k5⟩ := id HK
        obtain ⟨HT1, HT2, HT3, HT4⟩ := id HT
        refine V.zret .boolean dX6_takesPart_95 rfl (rfl) ?_
        have hE : leafP S = (false, failP 1 S) := by
          unfold leafP
          rw [if_neg q75]
          first | rw [if_pos q81] | rw [if_neg q81, if_neg q87]
        exact ⟨by rw [hE]; rfl, by rw [hE]; exact HP, hfr⟩
