/-! TextReading: what waits -/
/-- what holds all through an expression -/
def okE (n : Nat) (S : PS) : Prop := S.1.1 ≤ n ∧ okN (S.2.1.1.1 0) 7 ∧ okD S.2.1.2.1 ∧ okD S.2.1.2.2.1 ∧ okL S.2.1.2.2.2 S.2.2.2.2.1 S.2.2.2.2.2
theorem okE_step {b : Nat → Int32} {n : Nat} {S : PS} (h : okE n S) : okE n (stepP b n S) := ⟨tokN_le h.1, h.2⟩
def lvl (k : Int32) : Int32 := if k = 31 then 0 else if k = 18 then 1 else if k = 19 then 2 else if k = 20 then 3 else if k = 39 then 5 else if k = 40 then 5 else if k = 41 then 6 else if k = 42 then 6 else 4
theorem lvl_pos {k : Int32} (h : ¬ k = 31) : 0 < lvl k ∧ 0 < lvl k + 1 := by
  unfold lvl
  rw [if_neg h]
  repeat' split
  all_goals decide
theorem lenO : ∀ l : List Int32, l.length = nonO l + opnO l := by
  intro l
  induction l with
  | nil => rfl
  | cons x l ih =>
    unfold nonO opnO at *
    by_cases q : x = 31
    · simp [List.countP_cons, q] at *; omega
    · simp [List.countP_cons, q] at *; omega
theorem nonO_c {x : Int32} (l : List Int32) (h : ¬ x = 31) : nonO (x :: l) = nonO l + 1 := by simp [nonO, List.countP_cons, h]
theorem opnO_c {x : Int32} (l : List Int32) (h : ¬ x = 31) : opnO (x :: l) = opnO l := by simp [opnO, List.countP_cons, h]
theorem nonO_o (l : List Int32) : nonO (31 :: l) = nonO l := by simp [nonO, List.countP_cons]
theorem opnO_o (l : List Int32) : opnO (31 :: l) = opnO l + 1 := by simp [opnO, List.countP_cons]
def popTo (lv : Int32) : List Int32 → St → St × List Int32
  | [], L => (L, [])
  | x :: l, L => if lvl x < lv then (L, x :: l) else popTo lv l (lPlace L (nat (L.1 1)) x 0)
def lawsOf (S : PS) : St := S.2.1.2.2.2
def setL (S : PS) (L : St) : PS := setT S (S.2.1.1, S.2.1.2.1, S.2.1.2.2.1, L)
def wst (S : PS) (l : List Int32) : PS := (S.1, S.2.1, S.2.2.1, S.2.2.2.1, l, S.2.2.2.2.2)
def pushP (k : Int32) (S : PS) : PS := wst S (k :: S.2.2.2.2.1)
def placeP (lv : Int32) (S : PS) : PS := wst (setL S (popTo lv S.2.2.2.2.1 (lawsOf S)).1) (popTo lv S.2.2.2.2.1 (lawsOf S)).2
def lKnot (L : St) : St := (upd L.1 0 (L.1 0 + 1), L.2)
def knotP (S : PS) : Bool × PS := if (lawsOf S).1 0 < 64 then (true, setL S (lKnot (lawsOf S))) else (false, failP 2 S)
theorem okL_pop {L : St} {x : Int32} {l : List Int32} {o : Nat} (ok : okL L (x :: l) o) (hx : ¬ x = 31) : nat (L.1 1) < 64 ∧ okL (lPlace L (nat (L.1 1)) x 0) l o := by
  obtain ⟨h1, h2, h3, h4, h5⟩ := ok
  rw [nonO_c l hx] at h3
  rw [opnO_c l hx] at h4
  have h6 := h1.2
  have e : (lPlace L (nat (L.1 1)) x 0).1 1 = nI (nat (L.1 1) + 1) := rfl
  have e2 : nat ((lPlace L (nat (L.1 1)) x 0).1 1) = nat (L.1 1) + 1 := by rw [e]; exact nI_clamp (by omega)
  have e0 : (lPlace L (nat (L.1 1)) x 0).1 0 = L.1 0 := rfl
  exact ⟨by omega, by rw [e0]; exact h1, okN.of e (by omega) (by decide), by rw [e2, e0]; omega, h4, h5⟩
theorem okL_popTo {lv : Int32} (hlv : 0 < lv) {o : Nat} : ∀ (l : List Int32) (L : St), okL L l o → okL (popTo lv l L).1 (popTo lv l L).2 o := by
  intro l
  induction l with
  | nil => intro L h; exact h
  | cons x l ih =>
    intro L h
    unfold popTo
    by_cases q : lvl x < lv
    · rw [if_pos q]; exact h
    · rw [if_neg q]
      exact ih _ (okL_pop h (fun z => q (by rw [z]; exact hlv))).2
theorem okS_place {n : Nat} {S : PS} {lv : Int32} (hlv : 0 < lv) (ok : okE n S) : okE n (placeP lv S) := ⟨ok.1, ok.2.1, ok.2.2.1, ok.2.2.2.1, okL_popTo hlv _ _ ok.2.2.2.2⟩
theorem okS_len {n : Nat} {S : PS} (ok : okE n S) : S.2.2.2.2.1.length ≤ 72 := by
  obtain ⟨h1, h2, h3, h4, h5⟩ := ok.2.2.2.2
  have := lenO S.2.2.2.2.1
  have h6 := h1.2
  omega
/-- a knot more, and what will wait for it -/
theorem okS_knot {n : Nat} {S : PS} (ok : okE n S) (h : (lawsOf S).1 0 < 64) : okE n (setL S (lKnot (lawsOf S))) ∧ nat ((lawsOf S).1 1) + nonO S.2.2.2.2.1 < nat ((lKnot (lawsOf S)).1 0) := by
  obtain ⟨h1, h2, h3, h4, h5⟩ := ok.2.2.2.2
  have h6 := h1.2
  have h7 : (lawsOf S).1 0 = nI (nat ((lawsOf S).1 0)) := h1.1
  have h8 : nat ((lawsOf S).1 0) < 64 := by rw [h7] at h; exact (nI_ltI (by have : nat ((lawsOf S).1 0) < 65 := h6; omega) (by decide)).mp h
  have e : (lKnot (lawsOf S)).1 0 = nI (nat ((lawsOf S).1 0) + 1) := by show (lawsOf S).1 0 + 1 = _; rw [h7, nI_1, ← h7]
  have e2 : nat ((lKnot (lawsOf S)).1 0) = nat ((lawsOf S).1 0) + 1 := by rw [e]; exact nI_clamp (by omega)
  have h3' : nat ((lawsOf S).1 1) + nonO S.2.2.2.2.1 ≤ nat ((lawsOf S).1 0) := h3
  exact ⟨⟨ok.1, ok.2.1, ok.2.2.1, ok.2.2.2.1, okN.of e (by omega) (by decide), h2, by show nat ((lawsOf S).1 1) + nonO S.2.2.2.2.1 ≤ nat ((lKnot (lawsOf S)).1 0); omega, h4, h5⟩, by omega⟩
set_option maxRecDepth 100000 in
set_option maxHeartbeats 1000000 in
theorem lvl_V {d n0 : Nat} {κ : Kd} (hd : 1 ≤ d) {h : Hp} {x : Int32} : V MX6_levelOf (d, 0, 0, n0, κ) 0 0 h 0 [some (.int (x))] [] (Rd h (.int (lvl x))) := by
  refine V.iload_n dX6_levelOf_0 rfl ?_
  refine V.tswG [(18, 118), (19, 120), (20, 122), (31, 116), (39, 124), (40, 124), (41, 126), (42, 126)] 129 dX6_levelOf_1 (by decide) (by decide +kernel) (fa_cons (fun cs1 => ?_) (fa_cons (fun cs1 => ?_) (fa_cons (fun cs1 => ?_) (fa_cons (fun cs1 => ?_) (fa_cons (fun cs1 => ?_) (fa_cons (fun cs1 => ?_) (fa_cons (fun cs1 => ?_) (fa_cons (fun cs1 => ?_) fa_nil)))))))) (fun co1 => ?_)
  · skip
    refine V.iconst (v := 1) dX6_levelOf_118 (by decide) ?_
    refine V.iret dX6_levelOf_119 rfl ?_
    exact ⟨by simp_all [lvl], rfl⟩
  · skip
    refine V.iconst (v := 2) dX6_levelOf_120 (by decide) ?_
    refine V.iret dX6_levelOf_121 rfl ?_
    exact ⟨by simp_all [lvl], rfl⟩
  · skip
    refine V.iconst (v := 3) dX6_levelOf_122 (by decide) ?_
    refine V.iret dX6_levelOf_123 rfl ?_
    exact ⟨by simp_all [lvl], rfl⟩
  · skip
    refine V.iconst (v := 0) dX6_levelOf_116 (by decide) ?_
    refine V.iret dX6_levelOf_117 rfl ?_
    exact ⟨by simp_all [lvl], rfl⟩
  · skip
    refine V.iconst (v := 5) dX6_levelOf_124 (by decide) ?_
    refine V.iret dX6_levelOf_125 rfl ?_
    exact ⟨by simp_all [lvl], rfl⟩
  · skip
    refine V.iconst (v := 5) dX6_levelOf_124 (by decide) ?_
    refine V.iret dX6_levelOf_125 rfl ?_
    exact ⟨by simp_all [lvl], rfl⟩
  · skip
    refine V.bipush (v := 6) dX6_levelOf_126 (by decide) ?_
    refine V.iret dX6_levelOf_128 rfl ?_
    exact ⟨by simp_all [lvl], rfl⟩
  · skip
    refine V.bipush (v := 6) dX6_levelOf_126 (by decide) ?_
    refine V.iret dX6_levelOf_128 rfl ?_
    exact ⟨by simp_all [lvl], rfl⟩
  · skip
    refine V.iconst (v := 4) dX6_levelOf_129 (by decide) ?_
    refine V.iret dX6_levelOf_130 rfl ?_
    exact ⟨by simp_all [lvl], rfl⟩
set_option maxRecDepth 100000 in
set_option maxHeartbeats 1000000 in
theorem push_V {d n0 : Nat} {κ : Kd} (hd : 1 ≤ d) {h : Hp} {a t tp n : Nat} {b : Nat → Int32} {S : PS} (HP : isP h a t tp n b S) (hs : sepP a t tp) {k : Int32} (hlen : S.2.2.2.2.1.length < 72) : V MX6_holdBack (d, 0, 0, n0, κ) 0 0 h 0 [some (.ref a), some (.int (k))] [] (fun v h' => v = none ∧ isP h' a t tp n b (pushP k S) ∧ ∀ x : Nat, ((x < a ∨ a + 23 ≤ x) ∧ (x < t ∨ t + 19 ≤ x)) → h' x = h x) := by
  obtain ⟨s, H, hr, e0, e1, e4, e5, e6, HK, HT, hb⟩ := id HP
  obtain ⟨sk, K, kr, k1, k2, k3, k4, k5⟩ := id HK
  obtain ⟨HT1, HT2, HT3, HT4⟩ := id HT
  have sp1 := hs.1
  have sp2 := hs.2.1
  have sp3 := hs.2.2
  have hfr : ∀ x : Nat, ((x < a ∨ a + 23 ≤ x) ∧ (x < t ∨ t + 19 ≤ x)) → h x = h x := fun _ _ => rfl
  refine V.aload_n dX6_holdBack_0 rfl ?_
  refine V.getf okX6 5 fl_X6_171 dX6_holdBack_1 (by decide) H.1 rfl ?_
  refine V.aload_n dX6_holdBack_4 rfl ?_
  refine V.getf okX6 4 fl_X6_29 dX6_holdBack_5 (by decide) H.1 rfl ?_
  refine V.alen (v := nI 72) dX6_holdBack_8 (C6_r4 H) (by decide) rfl ?_
  refine V.icmp_ge 32 dX6_holdBack_9 (by decide) (fun z => absurd z (by rw [e5]; exact nI_ge (by omega) (by decide))) (fun _ => ?_)
  refine V.aload_n dX6_holdBack_12 rfl ?_
  refine V.getf okX6 4 fl_X6_29 dX6_holdBack_13 (by decide) H.1 rfl ?_
  refine V.aload_n dX6_holdBack_16 rfl ?_
  refine V.getf okX6 5 fl_X6_171 dX6_holdBack_17 (by decide) H.1 rfl ?_
  refine V.iload_n dX6_holdBack_20 rfl ?_
  refine V.iastH dX6_holdBack_21 (C6_r4 H) (e5) (by omega) (by decide) (fun h1 eh1 oh1 => ?_)
  have H := isR.setA C6_ok H C6_in4 (by decide) _ _ eh1 oh1
  have K := K.kept C7_ok (fun b hb1 hb2 => oh1 b (by have hb3 : b < _ := hb2; simp only [C7] at hb3; omega))
  have HT1 := HT1.kept C8_ok (fun b hb1 hb2 => oh1 b (by have hb3 : b < _ := hb2; simp only [C8] at hb3; omega))
  have HT2 := HT2.kept C2_ok (fun b hb1 hb2 => oh1 b (by have hb3 : b < _ := hb2; simp only [C2] at hb3; omega))
  have HT3 := HT3.kept C2_ok (fun b hb1 hb2 => oh1 b (by have hb3 : b < _ := hb2; simp only [C2] at hb3; omega))
  have HT4 := HT4.kept (fun b hb1 hb2 => oh1 b (by omega))
  have hb := (oh1 _ (by omega)).trans hb
  have hfr : ∀ x : Nat, ((x < a ∨ a + 23 ≤ x) ∧ (x < t ∨ t + 19 ≤ x)) → h1 x = h x := fun x hx => (oh1 x (by omega)).trans (hfr x hx)
  refine V.aload_n dX6_holdBack_22 rfl ?_
  refine V.dup dX6_holdBack_23 rfl ?_
  refine V.getf okX6 5 fl_X6_171 dX6_holdBack_24 (by decide) H.1 rfl ?_
  refine V.iconst (v := 1) dX6_holdBack_27 (by decide) ?_
  refine V.iadd dX6_holdBack_28 ?_
  refine V.putfH okX6 5 fl_X6_171 dX6_holdBack_29 (by decide) rfl H.1 (rfl) (rfl) (Nat.le_of_ble_eq_true rfl) (fun h2 eh2 oh2 => ?_)
  have H := isR.setI C6_ok H 5 _ (fun _ _ => rfl) eh2 oh2
  have K := K.kept C7_ok (fun b hb1 hb2 => oh2 b (by have hb3 : b < _ := hb2; simp only [C7] at hb3; omega))
  have HT1 := HT1.kept C8_ok (fun b hb1 hb2 => oh2 b (by have hb3 : b < _ := hb2; simp only [C8] at hb3; omega))
  have HT2 := HT2.kept C2_ok (fun b hb1 hb2 => oh2 b (by have hb3 : b < _ := hb2; simp only [C2] at hb3; omega))
  have HT3 := HT3.kept C2_ok (fun b hb1 hb2 => oh2 b (by have hb3 : b < _ := hb2; simp only [C2] at hb3; omega))
  have HT4 := HT4.kept (fun b hb1 hb2 => oh2 b (by omega))
  have hb := (oh2 _ (by omega)).trans hb
  have hfr : ∀ x : Nat, ((x < a ∨ a + 23 ≤ x) ∧ (x < t ∨ t + 19 ≤ x)) → h2 x = h x := fun x hx => (oh2 x (by omega)).trans (hfr x hx)
  refine V.vret dX6_holdBack_32 rfl ?_
  exact ⟨rfl, ⟨_, H, hr, e0, e1, ⟨if_pos rfl, isW_upd _ _ (Nat.le_refl _) e4⟩, by show s.1 5 + 1 = _; rw [e5]; exact nI_1 _, e6, ⟨_, K, kr, k1, k2, k3, k4, k5⟩, ⟨HT1, HT2, HT3, HT4⟩, hb⟩, hfr⟩
set_option maxRecDepth 100000 in
set_option maxHeartbeats 1000000 in
theorem knot_V {d n0 : Nat} {κ : Kd} (hd : 2 ≤ d) {h : Hp} {a t tp n : Nat} {b : Nat → Int32} {S : PS} (HP : isP h a t tp n b S) (hs : sepP a t tp) : V MX6_takesKnot (d, 0, 0, n0, κ) 0 0 h 0 [some (.ref a)] [] (fun v h' => v = some (.int (bI (knotP S).1)) ∧ isP h' a t tp n b (knotP S).2 ∧ ∀ x : Nat, ((x < a ∨ a + 23 ≤ x) ∧ (x < t ∨ t + 19 ≤ x)) → h' x = h x) := by
  obtain ⟨s, H, hr, e0, e1, e4, e5, e6, HK, HT, hb⟩ := id HP
  obtain ⟨sk, K, kr, k1, k2, k3, k4, k5⟩ := id HK
  obtain ⟨HT1, HT2, HT3, HT4⟩ := id HT
  have sp1 := hs.1
  have sp2 := hs.2.1
  have sp3 := hs.2.2
  obtain ⟨g4, H4⟩ := id HT4
  have hfr : ∀ x : Nat, ((x < a ∨ a + 23 ≤ x) ∧ (x < t ∨ t + 19 ≤ x)) → h x = h x := fun _ _ => rfl
  refine V.aload_n dX6_takesKnot_0 rfl ?_
  refine V.getf (v := .ref (t)) okX6 3 fl_X6_25 dX6_takesKnot_1 (by decide) H.1 (congrArg (fun z => some (Value.ref z)) (hr)) ?_
  refine V.getf okX8 9 fl_X6_152 dX6_takesKnot_4 (by decide) HT1.1 rfl ?_
  refine V.getf okX4 0 fl_X6_202 dX6_takesKnot_7 (by decide) H4.1 rfl ?_
  refine V.bipush (v := 64) dX6_takesKnot_10 (by decide) ?_
  refine V.icmp_lt 21 dX6_takesKnot_12 (by decide) (fun c12 => ?_) (fun c12 => ?_)
  · skip
    have q12 : (lawsOf S).1 0 < 64 := c12
    refine V.aload_n dX6_takesKnot_21 rfl ?_
    refine V.getf (v := .ref (t)) okX6 3 fl_X6_25 dX6_takesKnot_22 (by decide) H.1 (congrArg (fun z => some (Value.ref z)) (hr)) ?_
    refine V.getf okX8 9 fl_X6_152 dX6_takesKnot_25 (by decide) HT1.1 rfl ?_
    refine V.dup dX6_takesKnot_28 rfl ?_
    refine V.getf okX4 0 fl_X6_202 dX6_takesKnot_29 (by decide) H4.1 rfl ?_
    refine V.iconst (v := 1) dX6_takesKnot_32 (by decide) ?_
    refine V.iadd dX6_takesKnot_33 ?_
    refine V.putfH okX4 0 fl_X6_202 dX6_takesKnot_34 (by decide) rfl H4.1 (rfl) (rfl) (Nat.le_of_ble_eq_true rfl) (fun h1 eh1 oh1 => ?_)
    have H4 := isR.setI C4_ok H4 0 _ (fun _ _ => rfl) eh1 oh1
    have H := C6_kept H (oh1 _ (by omega)) (oh1 _ (by omega))
    have K := K.kept C7_ok (fun b hb1 hb2 => oh1 b (by have hb3 : b < _ := hb2; simp only [C7] at hb3; omega))
    have HT1 := HT1.kept C8_ok (fun b hb1 hb2 => oh1 b (by have hb3 : b < _ := hb2; simp only [C8] at hb3; omega))
    have HT2 := HT2.kept C2_ok (fun b hb1 hb2 => oh1 b (by have hb3 : b < _ := hb2; simp only [C2] at hb3; omega))
    have HT3 := HT3.kept C2_ok (fun b hb1 hb2 => oh1 b (by have hb3 : b < _ := hb2; simp only [C2] at hb3; omega))
    have hb := (oh1 _ (by omega)).trans hb
    have hfr : ∀ x : Nat, ((x < a ∨ a + 23 ≤ x) ∧ (x < t ∨ t + 19 ≤ x)) → h1 x = h x := fun x hx => (oh1 x (by omega)).trans (hfr x hx)
    refine V.iconst (v := 1) dX6_takesKnot_37 (by decide) ?_
    refine V.zret .boolean dX6_takesKnot_38 rfl (rfl) ?_
    have hE : knotP S = (true, setL S (lKnot (lawsOf S))) := if_pos q12
    exact ⟨by rw [hE]; rfl, by rw [hE]; exact ⟨_, H, hr, e0, e1, e4, e5, e6, ⟨_, K, kr, k1, k2, k3, k4, k5⟩, ⟨HT1, HT2, HT3, ⟨g4, H4⟩⟩, hb⟩, hfr⟩
  · skip
    have q12 : ¬ (lawsOf S).1 0 < 64 := c12
    refine V.aload_n dX6_takesKnot_15 rfl ?_
    refine V.iconst (v := 2) dX6_takesKnot_16 (by decide) ?_
    refine V.cV1 (ci := 6) yoX6_fails ml_X6_60 im_X6_fails se_X6_fails dX6_takesKnot_17 rfl H.1 (Nat.le_of_ble_eq_true rfl) (by omega) ⟨Nat.le_refl _, Nat.le_refl _⟩ rfl (Nat.le_of_ble_eq_true rfl) (fails_V (S := S) (k := 2) (by omega) HP hs) ?_
    rintro _ h2 ⟨rfl, HP, oh2⟩
    have hfr : ∀ x : Nat, ((x < a ∨ a + 23 ≤ x) ∧ (x < t ∨ t + 19 ≤ x)) → h2 x = h x := fun x hx => (oh2 x hx).trans (hfr x hx)
    obtain ⟨s, H, hr, e0, e1, e4, e5, e6, HK, HT, hb⟩ := id HP
    obtain ⟨sk, K, kr, k1, k2, k3, k4, k5⟩ := id HK
    obtain ⟨HT1, HT2, HT3, HT4⟩ := id HT
    refine V.zret .boolean dX6_takesKnot_20 rfl (rfl) ?_
    have hE : knotP S = (false, failP 2 S) := if_neg q12
    exact ⟨by rw [hE]; rfl, by rw [hE]; exact HP, hfr⟩
theorem nI_nle0 {k : Nat} (h : 0 < k) (hk : k < 2 ^ 31) : ¬ nI k ≤ 0 := nI_ge (a := 0) (b := k) h hk
set_option maxRecDepth 100000 in
set_option maxHeartbeats 2000000 in
theorem place_V {d n0 : Nat} {κ : Kd} (hd : 3 ≤ d) {h : Hp} {a t tp n : Nat} {b : Nat → Int32} {q : Tk} {T1 T2 T3 : St} {f p : Int32} {o : Nat} {lv : Int32} (hlv : 0 < lv) (hs : sepP a t tp) : ∀ (l : List Int32) (L : St) (g2 : Hp), okL L l o → isP g2 a t tp n b (q, (T1, T2, T3, L), f, p, l, o) → (∀ x : Nat, ((x < a ∨ a + 23 ≤ x) ∧ (x < t ∨ t + 19 ≤ x)) → g2 x = h x) → V MX6_placeDownTo (d, 0, 0, n0, κ) 0 0 g2 0 [some (.ref a), some (.int (lv))] [] (fun v h' => v = none ∧ isP h' a t tp n b (placeP lv (q, (T1, T2, T3, L), f, p, l, o)) ∧ ∀ x : Nat, ((x < a ∨ a + 23 ≤ x) ∧ (x < t ∨ t + 19 ≤ x)) → h' x = h x) := by
  intro l
  induction l with
  | nil =>
    intro L g2 okq HP hfr
    obtain ⟨s, H, hr, e0, e1, e4, e5, e6, HK, HT, hb⟩ := id HP
    obtain ⟨sk, K, kr, k1, k2, k3, k4, k5⟩ := id HK
    obtain ⟨HT1, HT2, HT3, HT4⟩ := id HT
    have sp1 := hs.1
    have sp2 := hs.2.1
    have sp3 := hs.2.2
    refine V.aload_n dX6_placeDownTo_0 rfl ?_
    refine V.getf okX6 5 fl_X6_171 dX6_placeDownTo_1 (by decide) H.1 rfl ?_
    refine V.if_le 58 dX6_placeDownTo_4 (by decide) (fun _ => ?_) (fun z => absurd (by rw [show s.1 5 = nI 0 from e5]; decide) z)
    refine V.vret dX6_placeDownTo_58 rfl ?_
    exact ⟨rfl, HP, hfr⟩
  | cons x l ih =>
    intro L g2 okq HP hfr
    obtain ⟨s, H, hr, e0, e1, e4, e5, e6, HK, HT, hb⟩ := id HP
    obtain ⟨sk, K, kr, k1, k2, k3, k4, k5⟩ := id HK
    obtain ⟨HT1, HT2, HT3, HT4⟩ := id HT
    have sp1 := hs.1
    have sp2 := hs.2.1
    have sp3 := hs.2.2
    have okL1 := okq.2.1.1
    have hlen : l.length + 1 ≤ 72 := by
      have := lenO (x :: l)
      obtain ⟨h1, h2, h3, h4, h5⟩ := okq
      have h6 := h1.2
      have h7 : (x :: l).length = l.length + 1 := rfl
      omega
    have e5 : s.1 5 = nI (l.length + 1) := e5
    have hl0 : 0 < l.length + 1 := by omega
    refine V.aload_n dX6_placeDownTo_0 rfl ?_
    refine V.getf okX6 5 fl_X6_171 dX6_placeDownTo_1 (by decide) H.1 rfl ?_
    refine V.if_le 58 dX6_placeDownTo_4 (by decide) (fun z => absurd z (by rw [e5]; exact nI_nle0 hl0 (by omega))) (fun _ => ?_)
    refine V.aload_n dX6_placeDownTo_7 rfl ?_
    refine V.getf okX6 4 fl_X6_29 dX6_placeDownTo_8 (by decide) H.1 rfl ?_
    refine V.aload_n dX6_placeDownTo_11 rfl ?_
    refine V.getf okX6 5 fl_X6_171 dX6_placeDownTo_12 (by decide) H.1 rfl ?_
    refine V.iconst (v := nI 1) dX6_placeDownTo_15 (by decide) ?_
    refine V.isub dX6_placeDownTo_16 ?_
    rw [e5, pk_sub (by omega)]
    refine V.ialdN dX6_placeDownTo_17 (C6_r4 H) (rfl) (by omega) (by decide) ?_
    refine V.eqi (y := x) e4.1 ?_
    refine V.cS1 yoX6_levelOf ml_X6_199 st_X6_levelOf dX6_placeDownTo_18 (Nat.le_of_ble_eq_true rfl) (by omega) ⟨Nat.le_refl _, Nat.le_refl _⟩ rfl (Nat.le_of_ble_eq_true rfl) (lvl_V (by omega)) (V.rdK ?_)
    refine V.iload_n dX6_placeDownTo_21 rfl ?_
    refine V.icmp_lt 58 dX6_placeDownTo_22 (by decide) (fun c22 => ?_) (fun c22 => ?_)
    · skip
      have hE : placeP lv (q, (T1, T2, T3, L), f, p, x :: l, o) = (q, (T1, T2, T3, L), f, p, x :: l, o) := by unfold placeP popTo; rw [if_pos c22]; rfl
      refine V.vret dX6_placeDownTo_58 rfl ?_
      exact ⟨rfl, by rw [hE]; exact HP, hfr⟩
    · skip
      have q22 : ¬ lvl x < lv := c22
      have hx : ¬ x = 31 := fun z => q22 (by rw [z]; exact hlv)
      have hE : placeP lv (q, (T1, T2, T3, L), f, p, x :: l, o) = placeP lv (q, (T1, T2, T3, lPlace L (nat (L.1 1)) x 0), f, p, l, o) := by
        show wst (setL _ (popTo lv (x :: l) L).1) (popTo lv (x :: l) L).2 = wst (setL _ (popTo lv l (lPlace L (nat (L.1 1)) x 0)).1) (popTo lv l (lPlace L (nat (L.1 1)) x 0)).2
        rw [popTo, if_neg q22]
        rfl
      refine V.aload_n dX6_placeDownTo_25 rfl ?_
      refine V.dup dX6_placeDownTo_26 rfl ?_
      refine V.getf okX6 5 fl_X6_171 dX6_placeDownTo_27 (by decide) H.1 rfl ?_
      refine V.iconst (v := nI 1) dX6_placeDownTo_30 (by decide) ?_
      refine V.isub dX6_placeDownTo_31 ?_
      rw [e5, pk_sub (by omega)]
      refine V.putfH okX6 5 fl_X6_171 dX6_placeDownTo_32 (by decide) rfl H.1 (rfl) (rfl) (Nat.le_of_ble_eq_true rfl) (fun h1 eh1 oh1 => ?_)
      have H := isR.setI C6_ok H 5 _ (fun _ _ => rfl) eh1 oh1
      have K := K.kept C7_ok (fun b hb1 hb2 => oh1 b (by have hb3 : b < _ := hb2; simp only [C7] at hb3; omega))
      have HT1 := HT1.kept C8_ok (fun b hb1 hb2 => oh1 b (by have hb3 : b < _ := hb2; simp only [C8] at hb3; omega))
      have HT2 := HT2.kept C2_ok (fun b hb1 hb2 => oh1 b (by have hb3 : b < _ := hb2; simp only [C2] at hb3; omega))
      have HT3 := HT3.kept C2_ok (fun b hb1 hb2 => oh1 b (by have hb3 : b < _ := hb2; simp only [C2] at hb3; omega))
      have HT4 := HT4.kept (fun b hb1 hb2 => oh1 b (by omega))
      have hb := (oh1 _ (by omega)).trans hb
      have hfr : ∀ x : Nat, ((x < a ∨ a + 23 ≤ x) ∧ (x < t ∨ t + 19 ≤ x)) → h1 x = h x := fun x hx => (oh1 x (by omega)).trans (hfr x hx)
      refine V.aload_n dX6_placeDownTo_35 rfl ?_
      refine V.getf (v := .ref (t)) okX6 3 fl_X6_25 dX6_placeDownTo_36 (by decide) H.1 (congrArg (fun z => some (Value.ref z)) (hr)) ?_
      refine V.getf okX8 9 fl_X6_152 dX6_placeDownTo_39 (by decide) HT1.1 rfl ?_
      refine V.aload_n dX6_placeDownTo_42 rfl ?_
      refine V.getf okX6 4 fl_X6_29 dX6_placeDownTo_43 (by decide) H.1 rfl ?_
      refine V.aload_n dX6_placeDownTo_46 rfl ?_
      refine V.getf okX6 5 fl_X6_171 dX6_placeDownTo_47 (by decide) H.1 rfl ?_
      refine V.ialdN dX6_placeDownTo_50 (C6_r4 H) (rfl) (by omega) (by decide) ?_
      refine V.eqi (y := x) e4.1 ?_
      have HP : isP _ a t tp n b (q, (T1, T2, T3, L), f, p, l, o) := ⟨_, H, hr, e0, e1, e4.2, rfl, e6, ⟨_, K, kr, k1, k2, k3, k4, k5⟩, ⟨HT1, HT2, HT3, HT4⟩, hb⟩
      obtain ⟨s, H, hr, e0, e1, e4, e5, e6, HK, HT, hb⟩ := id HP
      obtain ⟨sk, K, kr, k1, k2, k3, k4, k5⟩ := id HK
      obtain ⟨HT1, HT2, HT3, HT4⟩ := id HT
      refine V.iconst (v := 0) dX6_placeDownTo_51 (by decide) ?_
      obtain ⟨g4, H4⟩ := id HT4
      refine V.cV2 (ci := 4) yoX4_place ml_X6_197 im_X4_place se_X4_place dX6_placeDownTo_52 rfl H4.1 (Nat.le_of_ble_eq_true rfl) (by omega) ⟨Nat.le_refl _, Nat.le_refl _⟩ rfl (Nat.le_of_ble_eq_true rfl) (lPlace_V (z := nat (L.1 1)) (by omega) H4 okL1 (okL_pop okq hx).1) ?_
      rintro _ h2 ⟨rfl, HL, ooh2⟩
      obtain ⟨HP, oh2⟩ := isP.told HP hs (isT.laws (L := lPlace L (nat (L.1 1)) x 0) HT ⟨g4, HL⟩ ooh2)
      have hfr : ∀ x : Nat, ((x < a ∨ a + 23 ≤ x) ∧ (x < t ∨ t + 19 ≤ x)) → h2 x = h x := fun x hx => (oh2 x hx).trans (hfr x hx)
      refine V.goto 0 dX6_placeDownTo_55 (by decide) ?_
      rw [hE]
      exact ih _ h2 (okL_pop okq hx).2 HP hfr
