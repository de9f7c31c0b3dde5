/-! TextReading: small ones -/
/-- what waits, the latest first, in a row -/
def isW (r : Nat → Int32) : List Int32 → Prop
  | [] => True
  | x :: l => r l.length = x ∧ isW r l
theorem isW_upd {r : Nat → Int32} {x : Int32} : ∀ (l : List Int32) (k : Nat), l.length ≤ k → isW r l → isW (upd r k x) l := by
  intro l
  induction l with
  | nil => intro k _ _; exact trivial
  | cons y l ih =>
    intro k hk h
    have h1 : l.length + 1 ≤ k := hk
    refine ⟨?_, ih k (by omega) h.2⟩
    rw [show upd r k x l.length = r l.length from if_neg (by omega)]
    exact h.1
/-- where the reading stands: the TOKENS, what is told so far, FAULT and place, what waits, open -/
abbrev PS : Type := Tk × Tx × Int32 × Int32 × List Int32 × Nat
def isP (h : Hp) (a t tp n : Nat) (b : Nat → Int32) (S : PS) : Prop := ∃ s : St, isR C6 h a s ∧ s.2.2.2 3 = t ∧ s.1 0 = S.2.2.1 ∧ s.1 1 = S.2.2.2.1 ∧ isW (s.2.1 4) S.2.2.2.2.1 ∧ s.1 5 = nI S.2.2.2.2.1.length ∧ s.1 6 = nI S.2.2.2.2.2 ∧ isKt h (a + 1) tp n S.1 ∧ isT h t S.2.1 ∧ h tp = some (.inl (0, 700, .inl b))
def sepP (a t tp : Nat) : Prop := (t + 19 ≤ a ∨ a + 23 ≤ t) ∧ (tp < a ∨ a + 23 ≤ tp) ∧ (tp < t ∨ t + 19 ≤ tp)
def failP (k : Int32) (S : PS) : PS := (S.1, S.2.1, k, nI S.1.2.2.1, S.2.2.2.2)
def nextP (k : Int32) (S : PS) : Bool × PS := if S.1.2.1 = k then (true, S) else (false, failP 1 S)
def bindP (r : Bool × PS) (k : PS → Bool × PS) : Bool × PS := if r.1 = true then k r.2 else r
theorem bindP_t {r : Bool × PS} {k : PS → Bool × PS} (h : r.1 = true) : bindP r k = k r.2 := if_pos h
theorem bindP_f {r : Bool × PS} {k : PS → Bool × PS} (h : r.1 = false) : bindP r k = r := if_neg (by rw [h]; decide)
def numP (lo hi : Int32) (S : PS) : Bool × PS := if S.1.2.1 = -3 then (if S.1.2.2.2 < lo then (false, failP 2 S) else if S.1.2.2.2 ≤ hi then (true, S) else (false, failP 2 S)) else (false, failP 1 S)
def findP (S : PS) : Int32 := findF (S.2.1.1.2.1 1) S.1.2.2.2 (nat (S.2.1.1.1 0)) 0
def persP (S : PS) : Bool × PS := if S.1.2.1 = -4 then (if findP S < 0 then (false, failP 4 S) else (true, S)) else (false, failP 1 S)
theorem nextP_t {k : Int32} {S : PS} (h : (nextP k S).1 = true) : nextP k S = (true, S) ∧ S.1.2.1 = k := by
  unfold nextP at h ⊢
  by_cases q : S.1.2.1 = k
  · rw [if_pos q]; exact ⟨rfl, q⟩
  · rw [if_neg q] at h; cases h
theorem numP_t {lo hi : Int32} {S : PS} (h : (numP lo hi S).1 = true) : numP lo hi S = (true, S) ∧ S.1.2.1 = -3 ∧ ¬ S.1.2.2.2 < lo ∧ S.1.2.2.2 ≤ hi := by
  unfold numP at h ⊢
  by_cases q : S.1.2.1 = -3
  · rw [if_pos q] at h ⊢
    by_cases q2 : S.1.2.2.2 < lo
    · rw [if_pos q2] at h; cases h
    · rw [if_neg q2] at h ⊢
      by_cases q3 : S.1.2.2.2 ≤ hi
      · rw [if_pos q3]; exact ⟨rfl, q, q2, q3⟩
      · rw [if_neg q3] at h; cases h
  · rw [if_neg q] at h; cases h
theorem persP_t {S : PS} (h : (persP S).1 = true) : persP S = (true, S) ∧ S.1.2.1 = -4 ∧ ¬ findP S < 0 := by
  unfold persP at h ⊢
  by_cases q : S.1.2.1 = -4
  · rw [if_pos q] at h ⊢
    by_cases q2 : findP S < 0
    · rw [if_pos q2] at h; cases h
    · rw [if_neg q2]; exact ⟨rfl, q, q2⟩
  · rw [if_neg q] at h; cases h
def stepP (b : Nat → Int32) (n : Nat) (S : PS) : PS := (tokN b n S.1, S.2)
theorem twoB_m1 (c : Int32) : twoB (sgK c (-1)) = false := by
  unfold sgK
  simp only [show ((-1 : Int32) = 61) = False from by simp, show ((-1 : Int32) = 62) = False from by simp, if_false]
  repeat' split
  all_goals rfl
theorem stepK_le {b : Nat → Int32} {n p : Nat} {vl : Int32} (hp : p ≤ n) : (stepK b n p vl).1 ≤ n := by
  unfold stepK
  by_cases h1 : n ≤ p
  · rw [if_pos h1]; exact hp
  · rw [if_neg h1]
    by_cases h2 : letB (b p) = true
    · rw [if_pos h2]
      have := (spF_ge letB b (n - p) p).2
      show spF letB b (n - p) p ≤ n
      omega
    · rw [if_neg h2]
      by_cases h3 : digB (b p) = true
      · rw [if_pos h3]
        have := (spF_ge digB b (n - p) p).2
        show spF digB b (n - p) p ≤ n
        omega
      · rw [if_neg h3]
        show p + (if twoB (sgK (b p) (sgA b n (p + 1))) = true then 2 else 1) ≤ n
        by_cases h4 : p + 1 < n
        · split <;> omega
        · rw [show sgA b n (p + 1) = -1 from if_neg h4, if_neg (by rw [twoB_m1]; decide)]
          omega
theorem tokN_le {b : Nat → Int32} {n : Nat} {q : Tk} (h : q.1 ≤ n) : (tokN b n q).1 ≤ n := stepK_le (by have := (spF_ge blkB b (n - q.1) q.1).2; omega)
set_option maxRecDepth 100000 in
set_option maxHeartbeats 1000000 in
theorem fails_V {d n0 : Nat} {κ : Kd} (hd : 1 ≤ d) {h : Hp} {a t tp n : Nat} {b : Nat → Int32} {S : PS} (HP : isP h a t tp n b S) (hs : sepP a t tp) {k : Int32} : V MX6_fails (d, 0, 0, n0, κ) 0 0 h 0 [some (.ref a), some (.int (k))] [] (fun v h' => v = some (.int 0) ∧ isP h' a t tp n b (failP k S) ∧ ∀ x : Nat, ((x < a ∨ a + 23 ≤ x) ∧ (x < t ∨ t + 19 ≤ x)) → h' x = h x) := by
  obtain ⟨s, H, hr, e0, e1, e4, e5, e6, HK, HT, hb⟩ := id HP
  obtain ⟨sk, K, kr, k1, k2, k3, k4, k5⟩ := id HK
  obtain ⟨HT1, HT2, HT3, HT4⟩ := id HT
  have sp1 := hs.1
  have sp2 := hs.2.1
  have sp3 := hs.2.2
  have hfr : ∀ x : Nat, ((x < a ∨ a + 23 ≤ x) ∧ (x < t ∨ t + 19 ≤ x)) → h x = h x := fun _ _ => rfl
  refine V.aload_n dX6_fails_0 rfl ?_
  refine V.iload_n dX6_fails_1 rfl ?_
  refine V.putfH okX6 0 fl_X6_36 dX6_fails_2 (by decide) rfl H.1 (rfl) (rfl) (Nat.le_of_ble_eq_true rfl) (fun h1 eh1 oh1 => ?_)
  have H := isR.setI C6_ok H 0 _ (fun _ _ => rfl) eh1 oh1
  have K := K.kept C7_ok (fun b hb1 hb2 => oh1 b (by have hb3 : b < _ := hb2; simp only [C7] at hb3; omega))
  have HT1 := HT1.kept C8_ok (fun b hb1 hb2 => oh1 b (by have hb3 : b < _ := hb2; simp only [C8] at hb3; omega))
  have HT2 := HT2.kept C2_ok (fun b hb1 hb2 => oh1 b (by have hb3 : b < _ := hb2; simp only [C2] at hb3; omega))
  have HT3 := HT3.kept C2_ok (fun b hb1 hb2 => oh1 b (by have hb3 : b < _ := hb2; simp only [C2] at hb3; omega))
  have HT4 := HT4.kept (fun b hb1 hb2 => oh1 b (by omega))
  have hb := (oh1 _ (by omega)).trans hb
  have hfr : ∀ x : Nat, ((x < a ∨ a + 23 ≤ x) ∧ (x < t ∨ t + 19 ≤ x)) → h1 x = h x := fun x hx => (oh1 x (by omega)).trans (hfr x hx)
  refine V.aload_n dX6_fails_5 rfl ?_
  refine V.aload_n dX6_fails_6 rfl ?_
  refine V.getf okX6 2 fl_X6_18 dX6_fails_7 (by decide) H.1 rfl ?_
  refine V.getf okX7 4 fl_X6_57 dX6_fails_10 (by decide) K.1 rfl ?_
  refine V.putfH okX6 1 fl_X6_9 dX6_fails_13 (by decide) rfl H.1 (rfl) (rfl) (Nat.le_of_ble_eq_true rfl) (fun h2 eh2 oh2 => ?_)
  have H := isR.setI C6_ok H 1 _ (fun _ _ => rfl) eh2 oh2
  have K := K.kept C7_ok (fun b hb1 hb2 => oh2 b (by have hb3 : b < _ := hb2; simp only [C7] at hb3; omega))
  have HT1 := HT1.kept C8_ok (fun b hb1 hb2 => oh2 b (by have hb3 : b < _ := hb2; simp only [C8] at hb3; omega))
  have HT2 := HT2.kept C2_ok (fun b hb1 hb2 => oh2 b (by have hb3 : b < _ := hb2; simp only [C2] at hb3; omega))
  have HT3 := HT3.kept C2_ok (fun b hb1 hb2 => oh2 b (by have hb3 : b < _ := hb2; simp only [C2] at hb3; omega))
  have HT4 := HT4.kept (fun b hb1 hb2 => oh2 b (by omega))
  have hb := (oh2 _ (by omega)).trans hb
  have hfr : ∀ x : Nat, ((x < a ∨ a + 23 ≤ x) ∧ (x < t ∨ t + 19 ≤ x)) → h2 x = h x := fun x hx => (oh2 x (by omega)).trans (hfr x hx)
  refine V.iconst (v := 0) dX6_fails_16 (by decide) ?_
  refine V.zret .boolean dX6_fails_17 rfl (rfl) ?_
  exact ⟨rfl, ⟨_, H, hr, rfl, k4, e4, e5, e6, ⟨_, K, kr, k1, k2, k3, k4, k5⟩, ⟨HT1, HT2, HT3, HT4⟩, hb⟩, hfr⟩
set_option maxRecDepth 100000 in
set_option maxHeartbeats 1000000 in
theorem isNext_V {d n0 : Nat} {κ : Kd} (hd : 2 ≤ d) {h : Hp} {a t tp n : Nat} {b : Nat → Int32} {S : PS} (HP : isP h a t tp n b S) (hs : sepP a t tp) {k : Int32} : V MX6_isNext (d, 0, 0, n0, κ) 0 0 h 0 [some (.ref a), some (.int (k))] [] (fun v h' => v = some (.int (bI (nextP k S).1)) ∧ isP h' a t tp n b (nextP k S).2 ∧ ∀ x : Nat, ((x < a ∨ a + 23 ≤ x) ∧ (x < t ∨ t + 19 ≤ x)) → h' x = h x) := by
  obtain ⟨s, H, hr, e0, e1, e4, e5, e6, HK, HT, hb⟩ := id HP
  obtain ⟨sk, K, kr, k1, k2, k3, k4, k5⟩ := id HK
  obtain ⟨HT1, HT2, HT3, HT4⟩ := id HT
  have sp1 := hs.1
  have sp2 := hs.2.1
  have sp3 := hs.2.2
  have hfr : ∀ x : Nat, ((x < a ∨ a + 23 ≤ x) ∧ (x < t ∨ t + 19 ≤ x)) → h x = h x := fun _ _ => rfl
  refine V.aload_n dX6_isNext_0 rfl ?_
  refine V.getf okX6 2 fl_X6_18 dX6_isNext_1 (by decide) H.1 rfl ?_
  refine V.getf okX7 3 fl_X6_43 dX6_isNext_4 (by decide) K.1 rfl ?_
  refine V.iload_n dX6_isNext_7 rfl ?_
  refine V.icmp_eq 19 dX6_isNext_8 (by decide) (fun c8 => ?_) (fun c8 => ?_)
  · skip
    have hE : nextP k S = (true, S) := if_pos (k3.symm.trans c8)
    refine V.iconst (v := 1) dX6_isNext_19 (by decide) ?_
    refine V.goto 24 dX6_isNext_20 (by decide) ?_
    refine V.zret .boolean dX6_isNext_24 rfl (rfl) ?_
    exact ⟨by rw [hE]; rfl, by rw [hE]; exact ⟨_, H, hr, e0, e1, e4, e5, e6, ⟨_, K, kr, k1, k2, k3, k4, k5⟩, ⟨HT1, HT2, HT3, HT4⟩, hb⟩, hfr⟩
  · skip
    have hE : nextP k S = (false, failP 1 S) := if_neg (fun z => c8 (k3.trans z))
    refine V.aload_n dX6_isNext_11 rfl ?_
    refine V.iconst (v := 1) dX6_isNext_12 (by decide) ?_
    refine V.cV1 (ci := 6) yoX6_fails ml_X6_60 im_X6_fails se_X6_fails dX6_isNext_13 rfl H.1 (Nat.le_of_ble_eq_true rfl) (by omega) ⟨Nat.le_refl _, Nat.le_refl _⟩ rfl (Nat.le_of_ble_eq_true rfl) (fails_V (S := S) (k := 1) (by omega) HP hs) ?_
    rintro _ h1 ⟨rfl, HP, ooh1⟩
    have oh1 : ∀ x : Nat, ¬ ((a ≤ x ∧ x < a + 23) ∨ (t ≤ x ∧ x < t + 19)) → h1 x = h x := fun x hx => ooh1 x (by omega)
    obtain ⟨s, H, hr, e0, e1, e4, e5, e6, HK, HT, hb⟩ := id HP
    obtain ⟨sk, K, kr, k1, k2, k3, k4, k5⟩ := id HK
    obtain ⟨HT1, HT2, HT3, HT4⟩ := id HT
    have sp1 := hs.1
    have sp2 := hs.2.1
    have sp3 := hs.2.2
    have hfr : ∀ x : Nat, ((x < a ∨ a + 23 ≤ x) ∧ (x < t ∨ t + 19 ≤ x)) → h1 x = h x := fun x hx => (oh1 x (by omega)).trans (hfr x hx)
    refine V.if_eq 23 dX6_isNext_16 (by decide) (fun _ => ?_) (fun z => absurd (rfl) z)
    refine V.iconst (v := 0) dX6_isNext_23 (by decide) ?_
    refine V.zret .boolean dX6_isNext_24 rfl (rfl) ?_
    exact ⟨by rw [hE]; rfl, by rw [hE]; exact ⟨_, H, hr, e0, e1, e4, e5, e6, ⟨_, K, kr, k1, k2, k3, k4, k5⟩, ⟨HT1, HT2, HT3, HT4⟩, hb⟩, hfr⟩
set_option maxRecDepth 100000 in
set_option maxHeartbeats 1000000 in
theorem isNumber_V {d n0 : Nat} {κ : Kd} (hd : 3 ≤ d) {h : Hp} {a t tp n : Nat} {b : Nat → Int32} {S : PS} (HP : isP h a t tp n b S) (hs : sepP a t tp) {lo hi : Int32} : V MX6_isNumber (d, 0, 0, n0, κ) 0 0 h 0 [some (.ref a), some (.int (lo)), some (.int (hi))] [] (fun v h' => v = some (.int (bI (numP lo hi S).1)) ∧ isP h' a t tp n b (numP lo hi S).2 ∧ ∀ x : Nat, ((x < a ∨ a + 23 ≤ x) ∧ (x < t ∨ t + 19 ≤ x)) → h' x = h x) := by
  obtain ⟨s, H, hr, e0, e1, e4, e5, e6, HK, HT, hb⟩ := id HP
  obtain ⟨sk, K, kr, k1, k2, k3, k4, k5⟩ := id HK
  obtain ⟨HT1, HT2, HT3, HT4⟩ := id HT
  have sp1 := hs.1
  have sp2 := hs.2.1
  have sp3 := hs.2.2
  have hfr : ∀ x : Nat, ((x < a ∨ a + 23 ≤ x) ∧ (x < t ∨ t + 19 ≤ x)) → h x = h x := fun _ _ => rfl
  refine V.aload_n dX6_isNumber_0 rfl ?_
  refine V.bipush (v := (-3)) dX6_isNumber_1 (by decide) ?_
  refine V.cV1 (ci := 6) yoX6_isNext ml_X6_50 im_X6_isNext se_X6_isNext dX6_isNumber_3 rfl H.1 (Nat.le_of_ble_eq_true rfl) (by omega) ⟨Nat.le_refl _, Nat.le_refl _⟩ rfl (Nat.le_of_ble_eq_true rfl) (isNext_V (S := S) (k := (-3)) (by omega) ⟨_, H, hr, e0, e1, e4, e5, e6, ⟨_, K, kr, k1, k2, k3, k4, k5⟩, ⟨HT1, HT2, HT3, HT4⟩, hb⟩ hs) ?_
  rintro _ h1 ⟨rfl, HP, ooh1⟩
  have oh1 : ∀ x : Nat, ¬ ((a ≤ x ∧ x < a + 23) ∨ (t ≤ x ∧ x < t + 19)) → h1 x = h x := fun x hx => ooh1 x (by omega)
  obtain ⟨s, H, hr, e0, e1, e4, e5, e6, HK, HT, hb⟩ := id HP
  obtain ⟨sk, K, kr, k1, k2, k3, k4, k5⟩ := id HK
  obtain ⟨HT1, HT2, HT3, HT4⟩ := id HT
  have sp1 := hs.1
  have sp2 := hs.2.1
  have sp3 := hs.2.2
  have hfr : ∀ x : Nat, ((x < a ∨ a + 23 ≤ x) ∧ (x < t ∨ t + 19 ≤ x)) → h1 x = h x := fun x hx => (oh1 x (by omega)).trans (hfr x hx)
  refine V.if_ne 11 dX6_isNumber_6 (by decide) (fun c6 => ?_) (fun c6 => ?_)
  · skip
    have q6 := nextP_t (bI_t c6)
    rw [q6.1] at HP
    obtain ⟨s, H, hr, e0, e1, e4, e5, e6, HK, HT, hb⟩ := id HP
    obtain ⟨sk, K, kr, k1, k2, k3, k4, k5⟩ := id HK
    obtain ⟨HT1, HT2, HT3, HT4⟩ := id HT
    have sp1 := hs.1
    have sp2 := hs.2.1
    have sp3 := hs.2.2
    refine V.aload_n dX6_isNumber_11 rfl ?_
    refine V.getf okX6 2 fl_X6_18 dX6_isNumber_12 (by decide) H.1 rfl ?_
    refine V.getf okX7 5 fl_X6_63 dX6_isNumber_15 (by decide) K.1 rfl ?_
    refine V.iload_n dX6_isNumber_18 rfl ?_
    refine V.icmp_lt 33 dX6_isNumber_19 (by decide) (fun c19 => ?_) (fun c19 => ?_)
    · skip
      have hE : numP lo hi S = (false, failP 2 S) := by unfold numP; rw [if_pos q6.2, if_pos (by rw [← k5]; exact c19)]
      refine V.aload_n dX6_isNumber_33 rfl ?_
      refine V.iconst (v := 2) dX6_isNumber_34 (by decide) ?_
      refine V.cV1 (ci := 6) yoX6_fails ml_X6_60 im_X6_fails se_X6_fails dX6_isNumber_35 rfl H.1 (Nat.le_of_ble_eq_true rfl) (by omega) ⟨Nat.le_refl _, Nat.le_refl _⟩ rfl (Nat.le_of_ble_eq_true rfl) (fails_V (S := S) (k := 2) (by omega) HP hs) ?_
      rintro _ h2 ⟨rfl, HP, ooh2⟩
      have oh2 : ∀ x : Nat, ¬ ((a ≤ x ∧ x < a + 23) ∨ (t ≤ x ∧ x < t + 19)) → h2 x = h1 x := fun x hx => ooh2 x (by omega)
      obtain ⟨s, H, hr, e0, e1, e4, e5, e6, HK, HT, hb⟩ := id HP
      obtain ⟨sk, K, kr, k1, k2, k3, k4, k5⟩ := id HK
      obtain ⟨HT1, HT2, HT3, HT4⟩ := id HT
      have sp1 := hs.1
      have sp2 := hs.2.1
      have sp3 := hs.2.2
      have hfr : ∀ x : Nat, ((x < a ∨ a + 23 ≤ x) ∧ (x < t ∨ t + 19 ≤ x)) → h2 x = h x := fun x hx => (oh2 x (by omega)).trans (hfr x hx)
      refine V.if_eq 45 dX6_isNumber_38 (by decide) (fun _ => ?_) (fun z => absurd (rfl) z)
      refine V.iconst (v := 0) dX6_isNumber_45 (by decide) ?_
      refine V.zret .boolean dX6_isNumber_46 rfl (rfl) ?_
      first | exact ⟨by rw [hE]; rfl, by rw [hE]; exact HP, hfr⟩ | exact ⟨by rw [hE, show (nextP (-3) S).1 = false from bI_f c6]; rfl, by rw [hE]; exact HP, hfr⟩
    · skip
      skip
      refine V.aload_n dX6_isNumber_22 rfl ?_
      refine V.getf okX6 2 fl_X6_18 dX6_isNumber_23 (by decide) H.1 rfl ?_
      refine V.getf okX7 5 fl_X6_63 dX6_isNumber_26 (by decide) K.1 rfl ?_
      refine V.iload_n dX6_isNumber_29 rfl ?_
      refine V.icmp_le 41 dX6_isNumber_30 (by decide) (fun c30 => ?_) (fun c30 => ?_)
      · skip
        have hE : numP lo hi S = (true, S) := by unfold numP; rw [if_pos q6.2, if_neg (by rw [← k5]; exact c19), if_pos (by rw [← k5]; exact c30)]
        refine V.iconst (v := 1) dX6_isNumber_41 (by decide) ?_
        refine V.goto 46 dX6_isNumber_42 (by decide) ?_
        refine V.zret .boolean dX6_isNumber_46 rfl (rfl) ?_
        first | exact ⟨by rw [hE]; rfl, by rw [hE]; exact HP, hfr⟩ | exact ⟨by rw [hE, show (nextP (-3) S).1 = false from bI_f c6]; rfl, by rw [hE]; exact HP, hfr⟩
      · skip
        have hE : numP lo hi S = (false, failP 2 S) := by unfold numP; rw [if_pos q6.2, if_neg (by rw [← k5]; exact c19), if_neg (by rw [← k5]; exact c30)]
        refine V.aload_n dX6_isNumber_33 rfl ?_
        refine V.iconst (v := 2) dX6_isNumber_34 (by decide) ?_
        refine V.cV1 (ci := 6) yoX6_fails ml_X6_60 im_X6_fails se_X6_fails dX6_isNumber_35 rfl H.1 (Nat.le_of_ble_eq_true rfl) (by omega) ⟨Nat.le_refl _, Nat.le_refl _⟩ rfl (Nat.le_of_ble_eq_true rfl) (fails_V (S := S) (k := 2) (by omega) HP hs) ?_
        rintro _ h3 ⟨rfl, HP, ooh3⟩
        have oh3 : ∀ x : Nat, ¬ ((a ≤ x ∧ x < a + 23) ∨ (t ≤ x ∧ x < t + 19)) → h3 x = h1 x := fun x hx => ooh3 x (by omega)
        obtain ⟨s, H, hr, e0, e1, e4, e5, e6, HK, HT, hb⟩ := id HP
        obtain ⟨sk, K, kr, k1, k2, k3, k4, k5⟩ := id HK
        obtain ⟨HT1, HT2, HT3, HT4⟩ := id HT
        have sp1 := hs.1
        have sp2 := hs.2.1
        have sp3 := hs.2.2
        have hfr : ∀ x : Nat, ((x < a ∨ a + 23 ≤ x) ∧ (x < t ∨ t + 19 ≤ x)) → h3 x = h x := fun x hx => (oh3 x (by omega)).trans (hfr x hx)
        refine V.if_eq 45 dX6_isNumber_38 (by decide) (fun _ => ?_) (fun z => absurd (rfl) z)
        refine V.iconst (v := 0) dX6_isNumber_45 (by decide) ?_
        refine V.zret .boolean dX6_isNumber_46 rfl (rfl) ?_
        first | exact ⟨by rw [hE]; rfl, by rw [hE]; exact HP, hfr⟩ | exact ⟨by rw [hE, show (nextP (-3) S).1 = false from bI_f c6]; rfl, by rw [hE]; exact HP, hfr⟩
  · skip
    have hE : numP lo hi S = nextP (-3) S := by
      have z := bI_f c6
      unfold nextP numP at *
      by_cases q : S.1.2.1 = -3
      · rw [if_pos q] at z; cases z
      · rw [if_neg q, if_neg q]
    refine V.iconst (v := 0) dX6_isNumber_9 (by decide) ?_
    refine V.zret .boolean dX6_isNumber_10 rfl (rfl) ?_
    first | exact ⟨by rw [hE]; rfl, by rw [hE]; exact HP, hfr⟩ | exact ⟨by rw [hE, show (nextP (-3) S).1 = false from bI_f c6]; rfl, by rw [hE]; exact HP, hfr⟩
set_option maxRecDepth 100000 in
set_option maxHeartbeats 1000000 in
theorem isPerson_V {d n0 : Nat} {κ : Kd} (hd : 3 ≤ d) {h : Hp} {a t tp n : Nat} {b : Nat → Int32} {S : PS} (HP : isP h a t tp n b S) (hs : sepP a t tp) (hpp : okN (S.2.1.1.1 0) 7) : V MX6_isPersonTold (d, 0, 0, n0, κ) 0 0 h 0 [some (.ref a)] [] (fun v h' => v = some (.int (bI (persP S).1)) ∧ isP h' a t tp n b (persP S).2 ∧ ∀ x : Nat, ((x < a ∨ a + 23 ≤ x) ∧ (x < t ∨ t + 19 ≤ x)) → h' x = h x) := by
  obtain ⟨s, H, hr, e0, e1, e4, e5, e6, HK, HT, hb⟩ := id HP
  obtain ⟨sk, K, kr, k1, k2, k3, k4, k5⟩ := id HK
  obtain ⟨HT1, HT2, HT3, HT4⟩ := id HT
  have sp1 := hs.1
  have sp2 := hs.2.1
  have sp3 := hs.2.2
  have hpp2 := hpp.2
  have hfr : ∀ x : Nat, ((x < a ∨ a + 23 ≤ x) ∧ (x < t ∨ t + 19 ≤ x)) → h x = h x := fun _ _ => rfl
  refine V.aload_n dX6_isPersonTold_0 rfl ?_
  refine V.bipush (v := (-4)) dX6_isPersonTold_1 (by decide) ?_
  refine V.cV1 (ci := 6) yoX6_isNext ml_X6_50 im_X6_isNext se_X6_isNext dX6_isPersonTold_3 rfl H.1 (Nat.le_of_ble_eq_true rfl) (by omega) ⟨Nat.le_refl _, Nat.le_refl _⟩ rfl (Nat.le_of_ble_eq_true rfl) (isNext_V (S := S) (k := (-4)) (by omega) ⟨_, H, hr, e0, e1, e4, e5, e6, ⟨_, K, kr, k1, k2, k3, k4, k5⟩, ⟨HT1, HT2, HT3, HT4⟩, hb⟩ hs) ?_
  rintro _ h1 ⟨rfl, HP, ooh1⟩
  have oh1 : ∀ x : Nat, ¬ ((a ≤ x ∧ x < a + 23) ∨ (t ≤ x ∧ x < t + 19)) → h1 x = h x := fun x hx => ooh1 x (by omega)
  obtain ⟨s, H, hr, e0, e1, e4, e5, e6, HK, HT, hb⟩ := id HP
  obtain ⟨sk, K, kr, k1, k2, k3, k4, k5⟩ := id HK
  obtain ⟨HT1, HT2, HT3, HT4⟩ := id HT
  have sp1 := hs.1
  have sp2 := hs.2.1
  have sp3 := hs.2.2
  have hfr : ∀ x : Nat, ((x < a ∨ a + 23 ≤ x) ∧ (x < t ∨ t + 19 ≤ x)) → h1 x = h x := fun x hx => (oh1 x (by omega)).trans (hfr x hx)
  refine V.if_ne 11 dX6_isPersonTold_6 (by decide) (fun c6 => ?_) (fun c6 => ?_)
  · skip
    have q6 := nextP_t (bI_t c6)
    rw [q6.1] at HP
    obtain ⟨s, H, hr, e0, e1, e4, e5, e6, HK, HT, hb⟩ := id HP
    obtain ⟨sk, K, kr, k1, k2, k3, k4, k5⟩ := id HK
    obtain ⟨HT1, HT2, HT3, HT4⟩ := id HT
    have sp1 := hs.1
    have sp2 := hs.2.1
    have sp3 := hs.2.2
    refine V.aload_n dX6_isPersonTold_11 rfl ?_
    refine V.getf (v := .ref (t)) okX6 3 fl_X6_25 dX6_isPersonTold_12 (by decide) H.1 (congrArg (fun z => some (Value.ref z)) (hr)) ?_
    refine V.aload_n dX6_isPersonTold_15 rfl ?_
    refine V.getf okX6 2 fl_X6_18 dX6_isPersonTold_16 (by decide) H.1 rfl ?_
    refine V.getf okX7 5 fl_X6_63 dX6_isPersonTold_19 (by decide) K.1 rfl ?_
    rw [k5]
    refine V.cV1 (ci := 8) yoX8_find ml_X6_66 im_X8_find se_X8_find dX6_isPersonTold_22 rfl HT1.1 (Nat.le_of_ble_eq_true rfl) (by omega) ⟨Nat.le_refl _, Nat.le_refl _⟩ rfl (Nat.le_of_ble_eq_true rfl) (tFind_V (by omega) HT1 hpp.1 (by omega)) (V.rdK ?_)
    refine V.if_ge 36 dX6_isPersonTold_25 (by decide) (fun c25 => ?_) (fun c25 => ?_)
    · skip
      have hE : persP S = (true, S) := by unfold persP; rw [if_pos q6.2, if_neg (show ¬ findP S < 0 from Int32.not_lt.mpr c25)]
      refine V.iconst (v := 1) dX6_isPersonTold_36 (by decide) ?_
      refine V.goto 41 dX6_isPersonTold_37 (by decide) ?_
      refine V.zret .boolean dX6_isPersonTold_41 rfl (rfl) ?_
      first | exact ⟨by rw [hE]; rfl, by rw [hE]; exact HP, hfr⟩ | exact ⟨by rw [hE, show (nextP (-4) S).1 = false from bI_f c6]; rfl, by rw [hE]; exact HP, hfr⟩
    · skip
      have hE : persP S = (false, failP 4 S) := by unfold persP; rw [if_pos q6.2, if_pos (show findP S < 0 from Int32.not_le.mp c25)]
      refine V.aload_n dX6_isPersonTold_28 rfl ?_
      refine V.iconst (v := 4) dX6_isPersonTold_29 (by decide) ?_
      refine V.cV1 (ci := 6) yoX6_fails ml_X6_60 im_X6_fails se_X6_fails dX6_isPersonTold_30 rfl H.1 (Nat.le_of_ble_eq_true rfl) (by omega) ⟨Nat.le_refl _, Nat.le_refl _⟩ rfl (Nat.le_of_ble_eq_true rfl) (fails_V (S := S) (k := 4) (by omega) HP hs) ?_
      rintro _ h2 ⟨rfl, HP, ooh2⟩
      have oh2 : ∀ x : Nat, ¬ ((a ≤ x ∧ x < a + 23) ∨ (t ≤ x ∧ x < t + 19)) → h2 x = h1 x := fun x hx => ooh2 x (by omega)
      obtain ⟨s, H, hr, e0, e1, e4, e5, e6, HK, HT, hb⟩ := id HP
      obtain ⟨sk, K, kr, k1, k2, k3, k4, k5⟩ := id HK
      obtain ⟨HT1, HT2, HT3, HT4⟩ := id HT
      have sp1 := hs.1
      have sp2 := hs.2.1
      have sp3 := hs.2.2
      have hfr : ∀ x : Nat, ((x < a ∨ a + 23 ≤ x) ∧ (x < t ∨ t + 19 ≤ x)) → h2 x = h x := fun x hx => (oh2 x (by omega)).trans (hfr x hx)
      refine V.if_eq 40 dX6_isPersonTold_33 (by decide) (fun _ => ?_) (fun z => absurd (rfl) z)
      refine V.iconst (v := 0) dX6_isPersonTold_40 (by decide) ?_
      refine V.zret .boolean dX6_isPersonTold_41 rfl (rfl) ?_
      first | exact ⟨by rw [hE]; rfl, by rw [hE]; exact HP, hfr⟩ | exact ⟨by rw [hE, show (nextP (-4) S).1 = false from bI_f c6]; rfl, by rw [hE]; exact HP, hfr⟩
  · skip
    have hE : persP S = nextP (-4) S := by
      have z := bI_f c6
      unfold nextP persP at *
      by_cases q : S.1.2.1 = -4
      · rw [if_pos q] at z; cases z
      · rw [if_neg q, if_neg q]
    refine V.iconst (v := 0) dX6_isPersonTold_9 (by decide) ?_
    refine V.zret .boolean dX6_isPersonTold_10 rfl (rfl) ?_
    first | exact ⟨by rw [hE]; rfl, by rw [hE]; exact HP, hfr⟩ | exact ⟨by rw [hE, show (nextP (-4) S).1 = false from bI_f c6]; rfl, by rw [hE]; exact HP, hfr⟩
