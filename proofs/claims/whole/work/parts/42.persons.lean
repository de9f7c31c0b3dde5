/-! TextReading: MAN, JUNE, DRAFT, SEED -/
def nonO (l : List Int32) : Nat := l.countP (fun k => decide (¬ k = 31))
def opnO (l : List Int32) : Nat := l.countP (fun k => decide (k = 31))
def okD (D : St) : Prop := (D.1 1 = 12 ∨ D.1 1 = 8) ∧ okN (D.1 0) 13
def okL (L : St) (st : List Int32) (o : Nat) : Prop := okN (L.1 0) 65 ∧ okN (L.1 1) 65 ∧ nat (L.1 1) + nonO st ≤ nat (L.1 0) ∧ opnO st = o ∧ o ≤ 8
/-- what holds all through the reading -/
def okS (n : Nat) (S : PS) : Prop := S.1.1 ≤ n ∧ okN (S.2.1.1.1 0) 7 ∧ okD S.2.1.2.1 ∧ okD S.2.1.2.2.1 ∧ okL S.2.1.2.2.2 [] 0
theorem okS_step {b : Nat → Int32} {n : Nat} {S : PS} (h : okS n S) : okS n (stepP b n S) := ⟨tokN_le h.1, h.2⟩
def setT (S : PS) (T : Tx) : PS := (S.1, T, S.2.2)
theorem bindP_k {r : Bool × PS} {k : PS → Bool × PS} {S : PS} (h : r = (true, S)) : bindP r k = k S := by rw [h]; rfl
theorem findF_nI {f : Nat → Int32} {x : Int32} : ∀ (k i : Nat), i + k ≤ 6 → ¬ findF f x k i < 0 → ∃ j, findF f x k i = nI j ∧ j < i + k := by
  intro k
  induction k with
  | zero => intro i _ h; exact absurd (show (-1 : Int32) < 0 by decide) h
  | succ k ih =>
    intro i hi h
    unfold findF at h ⊢
    by_cases q : f i = x
    · rw [if_pos q]; exact ⟨i, rfl, by omega⟩
    · rw [if_neg q] at h ⊢
      obtain ⟨j, h1, h2⟩ := ih (i + 1) (by omega) h
      exact ⟨j, h1, by omega⟩
theorem findP_ok {n : Nat} {S : PS} (ok : okS n S) (h : ¬ findP S < 0) : findP S = nI (nat (findP S)) ∧ nat (findP S) < nat (S.2.1.1.1 0) := by
  have h6 := ok.2.1.2
  obtain ⟨j, h1, h2⟩ := findF_nI (f := S.2.1.1.2.1 1) (x := S.1.2.2.2) (nat (S.2.1.1.1 0)) 0 (by omega) h
  have h3 : findP S = nI j := h1
  have h4 : nat (findP S) = j := by rw [h3]; exact nI_clamp (by omega)
  exact ⟨by rw [h4]; exact h3, by omega⟩
theorem okS.pers {n : Nat} {S : PS} {x y : Int32} (ok : okS n S) (h : nat (S.2.1.1.1 0) < 6) : okS n (setT S (tAdd S.2.1.1 (nat (S.2.1.1.1 0)) x y, S.2.1.2)) :=
  ⟨ok.1, okN.of (n := nat (S.2.1.1.1 0) + 1) rfl (by omega) (by decide), ok.2.2⟩
def rPers2 (b : Nat → Int32) (n : Nat) (x : Int32) (S : PS) : Bool × PS := (true, stepP b n (setT S (tAdd S.2.1.1 (nat (S.2.1.1.1 0)) x S.1.2.2.2, S.2.1.2)))
def rPers1 (b : Nat → Int32) (n : Nat) (S : PS) : Bool × PS := if findP S < 0 then bindP (numP 1 60 (stepP b n S)) (rPers2 b n S.1.2.2.2) else (false, failP 3 S)
def rPers (b : Nat → Int32) (n : Nat) (S : PS) : Bool × PS := if S.2.1.1.1 0 < 6 then bindP (nextP (-4) (stepP b n S)) (rPers1 b n) else (false, failP 2 S)
def tJuneSet (s : St) (i : Nat) (x : Int32) : St := (upd s.1 5 (s.1 5 + 1), s.2.1, uJ s.2.2.1 3 i (s.2.2.1 3 i ||| (1 <<< (x.toInt64 &&& 63))), s.2.2.2)
def rJune2 (b : Nat → Int32) (n i : Nat) (S : PS) : Bool × PS := if tJune S.2.1.1 i S.1.2.2.2 = true then (false, failP 3 S) else (true, stepP b n (setT S (tJuneSet S.2.1.1 i S.1.2.2.2, S.2.1.2)))
def rJune1 (b : Nat → Int32) (n : Nat) (S : PS) : Bool × PS := bindP (numP 0 59 (stepP b n S)) (rJune2 b n (nat (findP S)))
def rJune (b : Nat → Int32) (n : Nat) (S : PS) : Bool × PS := if S.2.1.1.1 5 < 12 then bindP (persP (stepP b n S)) (rJune1 b n) else (false, failP 2 S)
def rDraft1 (b : Nat → Int32) (n : Nat) (S : PS) : Bool × PS := (true, stepP b n (setT S ((upd (upd S.2.1.1.1 12 1) 10 S.1.2.2.2, S.2.1.1.2), S.2.1.2)))
def rDraft (b : Nat → Int32) (n : Nat) (S : PS) : Bool × PS := if S.2.1.1.1 12 = 0 then bindP (numP 0 100 (stepP b n S)) (rDraft1 b n) else (false, failP 3 S)
def rSeed1 (b : Nat → Int32) (n : Nat) (S : PS) : Bool × PS := (true, stepP b n (setT S ((upd (upd S.2.1.1.1 13 1) 11 S.1.2.2.2, S.2.1.1.2), S.2.1.2)))
def rSeed (b : Nat → Int32) (n : Nat) (S : PS) : Bool × PS := if S.2.1.1.1 13 = 0 then bindP (numP 0 99999 (stepP b n S)) (rSeed1 b n) else (false, failP 3 S)
set_option maxRecDepth 100000 in
set_option maxHeartbeats 4000000 in
theorem rPers_V {d n0 : Nat} {κ : Kd} (hd : 6 ≤ d) {h : Hp} {a t tp n : Nat} {b : Nat → Int32} {S : PS} (HP : isP h a t tp n b S) (hs : sepP a t tp) (hn : n ≤ 700) (hbb : ∀ k, k < n → ¬ b k = -1) (okQ : okS n S) : V MX6_readPerson (d, 0, 0, n0, κ) 0 0 h 0 [some (.ref a), none] [] (fun v h' => v = some (.int (bI (rPers b n S).1)) ∧ isP h' a t tp n b (rPers b n S).2 ∧ ∀ x : Nat, ((x < a ∨ a + 23 ≤ x) ∧ (x < t ∨ t + 19 ≤ x)) → h' x = h x) := by
  obtain ⟨s, H, hr, e0, e1, e4, e5, e6, HK, HT, hb⟩ := id HP
  obtain ⟨sk, K, kr, k1, k2, k3, k4, k5⟩ := id HK
  obtain ⟨HT1, HT2, HT3, HT4⟩ := id HT
  have sp1 := hs.1
  have sp2 := hs.2.1
  have sp3 := hs.2.2
  have hfr : ∀ x : Nat, ((x < a ∨ a + 23 ≤ x) ∧ (x < t ∨ t + 19 ≤ x)) → h x = h x := fun _ _ => rfl
  refine V.aload_n dX6_readPerson_0 rfl ?_
  refine V.getf (v := .ref (t)) okX6 3 fl_X6_25 dX6_readPerson_1 (by decide) H.1 (congrArg (fun z => some (Value.ref z)) (hr)) ?_
  refine V.getf okX8 0 fl_X6_99 dX6_readPerson_4 (by decide) HT1.1 rfl ?_
  refine V.bipush (v := 6) dX6_readPerson_7 (by decide) ?_
  refine V.icmp_lt 18 dX6_readPerson_9 (by decide) (fun c9 => ?_) (fun c9 => ?_)
  · skip
    have q9 : S.2.1.1.1 0 < 6 := c9
    refine V.aload_n dX6_readPerson_18 rfl ?_
    refine V.getf okX6 2 fl_X6_18 dX6_readPerson_19 (by decide) H.1 rfl ?_
    refine V.cV0 (ci := 7) yoX7_step ml_X6_54 im_X7_step se_X7_step dX6_readPerson_22 rfl K.1 (Nat.le_of_ble_eq_true rfl) (by omega) ⟨Nat.le_refl _, Nat.le_refl _⟩ rfl (Nat.le_of_ble_eq_true rfl) (step_V (q := (S).1) (b := b) (n := n) (by omega) ⟨_, K, kr, k1, k2, k3, k4, k5⟩ hb hn okQ.1 hbb (by omega)) ?_
    rintro _ h1 ⟨rfl, HK, ooh1⟩
    have oh1 : ∀ x : Nat, ¬ x = a + 1 → h1 x = h x := fun x hx => ooh1 x (by omega)
    obtain ⟨sk, K, kr, k1, k2, k3, k4, k5⟩ := id HK
    have H := C6_kept H (oh1 _ (by omega)) (oh1 _ (by omega))
    have HT1 := HT1.kept C8_ok (fun b hb1 hb2 => oh1 b (by have hb3 : b < _ := hb2; simp only [C8] at hb3; omega))
    have HT2 := HT2.kept C2_ok (fun b hb1 hb2 => oh1 b (by have hb3 : b < _ := hb2; simp only [C2] at hb3; omega))
    have HT3 := HT3.kept C2_ok (fun b hb1 hb2 => oh1 b (by have hb3 : b < _ := hb2; simp only [C2] at hb3; omega))
    have HT4 := HT4.kept (fun b hb1 hb2 => oh1 b (by omega))
    have hb := (oh1 _ (by omega)).trans hb
    have hfr : ∀ x : Nat, ((x < a ∨ a + 23 ≤ x) ∧ (x < t ∨ t + 19 ≤ x)) → h1 x = h x := fun x hx => (oh1 x (by omega)).trans (hfr x hx)
    have HP : isP _ a t tp n b (stepP b n S) := ⟨_, H, hr, e0, e1, e4, e5, e6, ⟨_, K, kr, k1, k2, k3, k4, k5⟩, ⟨HT1, HT2, HT3, HT4⟩, hb⟩
    obtain ⟨S1, hS1⟩ : ∃ x, x = stepP b n S := ⟨_, rfl⟩
    rw [← hS1] at HP
    have okS1 : okS n S1 := by rw [hS1]; exact okS_step okQ
    obtain ⟨s, H, hr, e0, e1, e4, e5, e6, HK, HT, hb⟩ := id HP
    obtain ⟨sk, K, kr, k1, k2, k3, k4, k5⟩ := id HK
    obtain ⟨HT1, HT2, HT3, HT4⟩ := id HT
    refine V.aload_n dX6_readPerson_25 rfl ?_
    refine V.bipush (v := (-4)) dX6_readPerson_26 (by decide) ?_
    refine V.cV1 (ci := 6) yoX6_isNext ml_X6_50 im_X6_isNext se_X6_isNext dX6_readPerson_28 rfl H.1 (Nat.le_of_ble_eq_true rfl) (by omega) ⟨Nat.le_refl _, Nat.le_refl _⟩ rfl (Nat.le_of_ble_eq_true rfl) (isNext_V (S := S1) (k := (-4)) (by omega) HP hs) ?_
    rintro _ h2 ⟨rfl, HP, ooh2⟩
    have oh2 : ∀ x : Nat, ¬ ((a ≤ x ∧ x < a + 23) ∨ (t ≤ x ∧ x < t + 19)) → h2 x = h1 x := fun x hx => ooh2 x (by omega)
    obtain ⟨s, H, hr, e0, e1, e4, e5, e6, HK, HT, hb⟩ := id HP
    obtain ⟨sk, K, kr, k1, k2, k3, k4, k5⟩ := id HK
    obtain ⟨HT1, HT2, HT3, HT4⟩ := id HT
    have hfr : ∀ x : Nat, ((x < a ∨ a + 23 ≤ x) ∧ (x < t ∨ t + 19 ≤ x)) → h2 x = h x := fun x hx => (oh2 x (by omega)).trans (hfr x hx)
    refine V.if_ne 36 dX6_readPerson_31 (by decide) (fun c31 => ?_) (fun c31 => ?_)
    · skip
      have q31 := nextP_t (bI_t c31)
      rw [q31.1] at HP
      obtain ⟨s, H, hr, e0, e1, e4, e5, e6, HK, HT, hb⟩ := id HP
      obtain ⟨sk, K, kr, k1, k2, k3, k4, k5⟩ := id HK
      obtain ⟨HT1, HT2, HT3, HT4⟩ := id HT
      refine V.aload_n dX6_readPerson_36 rfl ?_
      refine V.getf okX6 2 fl_X6_18 dX6_readPerson_37 (by decide) H.1 rfl ?_
      refine V.getf okX7 5 fl_X6_63 dX6_readPerson_40 (by decide) K.1 rfl ?_
      refine V.istore_n dX6_readPerson_43 (by decide) rfl ?_
      refine V.aload_n dX6_readPerson_44 rfl ?_
      refine V.getf (v := .ref (t)) okX6 3 fl_X6_25 dX6_readPerson_45 (by decide) H.1 (congrArg (fun z => some (Value.ref z)) (hr)) ?_
      rw [k5]
      refine V.iload_n dX6_readPerson_48 rfl ?_
      refine V.cV1 (ci := 8) yoX8_find ml_X6_66 im_X8_find se_X8_find dX6_readPerson_49 rfl HT1.1 (Nat.le_of_ble_eq_true rfl) (by omega) ⟨Nat.le_refl _, Nat.le_refl _⟩ rfl (Nat.le_of_ble_eq_true rfl) (tFind_V (by omega) HT1 okS1.2.1.1 (by have := okS1.2.1.2; omega)) (V.rdK ?_)
      refine V.if_lt 61 dX6_readPerson_52 (by decide) (fun c52 => ?_) (fun c52 => ?_)
      · skip
        have q52 : findP S1 < 0 := c52
        refine V.aload_n dX6_readPerson_61 rfl ?_
        refine V.getf okX6 2 fl_X6_18 dX6_readPerson_62 (by decide) H.1 rfl ?_
        refine V.cV0 (ci := 7) yoX7_step ml_X6_54 im_X7_step se_X7_step dX6_readPerson_65 rfl K.1 (Nat.le_of_ble_eq_true rfl) (by omega) ⟨Nat.le_refl _, Nat.le_refl _⟩ rfl (Nat.le_of_ble_eq_true rfl) (step_V (q := (S1).1) (b := b) (n := n) (by omega) ⟨_, K, kr, k1, k2, k3, k4, k5⟩ hb hn okS1.1 hbb (by omega)) ?_
        rintro _ h3 ⟨rfl, HK, ooh3⟩
        have oh3 : ∀ x : Nat, ¬ x = a + 1 → h3 x = h2 x := fun x hx => ooh3 x (by omega)
        obtain ⟨sk, K, kr, k1, k2, k3, k4, k5⟩ := id HK
        have H := C6_kept H (oh3 _ (by omega)) (oh3 _ (by omega))
        have HT1 := HT1.kept C8_ok (fun b hb1 hb2 => oh3 b (by have hb3 : b < _ := hb2; simp only [C8] at hb3; omega))
        have HT2 := HT2.kept C2_ok (fun b hb1 hb2 => oh3 b (by have hb3 : b < _ := hb2; simp only [C2] at hb3; omega))
        have HT3 := HT3.kept C2_ok (fun b hb1 hb2 => oh3 b (by have hb3 : b < _ := hb2; simp only [C2] at hb3; omega))
        have HT4 := HT4.kept (fun b hb1 hb2 => oh3 b (by omega))
        have hb := (oh3 _ (by omega)).trans hb
        have hfr : ∀ x : Nat, ((x < a ∨ a + 23 ≤ x) ∧ (x < t ∨ t + 19 ≤ x)) → h3 x = h x := fun x hx => (oh3 x (by omega)).trans (hfr x hx)
        have HP : isP _ a t tp n b (stepP b n S1) := ⟨_, H, hr, e0, e1, e4, e5, e6, ⟨_, K, kr, k1, k2, k3, k4, k5⟩, ⟨HT1, HT2, HT3, HT4⟩, hb⟩
        obtain ⟨S2, hS2⟩ : ∃ x, x = stepP b n S1 := ⟨_, rfl⟩
        rw [← hS2] at HP
        have okS2 : okS n S2 := by rw [hS2]; exact okS_step okS1
        obtain ⟨s, H, hr, e0, e1, e4, e5, e6, HK, HT, hb⟩ := id HP
        obtain ⟨sk, K, kr, k1, k2, k3, k4, k5⟩ := id HK
        obtain ⟨HT1, HT2, HT3, HT4⟩ := id HT
        refine V.aload_n dX6_readPerson_68 rfl ?_
        refine V.iconst (v := 1) dX6_readPerson_69 (by decide) ?_
        refine V.bipush (v := 60) dX6_readPerson_70 (by decide) ?_
        refine V.cV2 (ci := 6) yoX6_isNumber ml_X6_102 im_X6_isNumber se_X6_isNumber dX6_readPerson_72 rfl H.1 (Nat.le_of_ble_eq_true rfl) (by omega) ⟨Nat.le_refl _, Nat.le_refl _⟩ rfl (Nat.le_of_ble_eq_true rfl) (isNumber_V (S := S2) (lo := 1) (hi := 60) (by omega) HP hs) ?_
        rintro _ h4 ⟨rfl, HP, ooh4⟩
        have oh4 : ∀ x : Nat, ¬ ((a ≤ x ∧ x < a + 23) ∨ (t ≤ x ∧ x < t + 19)) → h4 x = h3 x := fun x hx => ooh4 x (by omega)
        obtain ⟨s, H, hr, e0, e1, e4, e5, e6, HK, HT, hb⟩ := id HP
        obtain ⟨sk, K, kr, k1, k2, k3, k4, k5⟩ := id HK
        obtain ⟨HT1, HT2, HT3, HT4⟩ := id HT
        have hfr : ∀ x : Nat, ((x < a ∨ a + 23 ≤ x) ∧ (x < t ∨ t + 19 ≤ x)) → h4 x = h x := fun x hx => (oh4 x (by omega)).trans (hfr x hx)
        refine V.if_ne 80 dX6_readPerson_75 (by decide) (fun c75 => ?_) (fun c75 => ?_)
        · skip
          have q75 := numP_t (bI_t c75)
          rw [q75.1] at HP
          obtain ⟨s, H, hr, e0, e1, e4, e5, e6, HK, HT, hb⟩ := id HP
          obtain ⟨sk, K, kr, k1, k2, k3, k4, k5⟩ := id HK
          obtain ⟨HT1, HT2, HT3, HT4⟩ := id HT
          have hlt : nat (S2.2.1.1.1 0) < 6 := by
            have e : S2.2.1.1.1 0 = S.2.1.1.1 0 := by rw [hS2, hS1]; rfl
            have h1 := okS2.2.1
            have h2 := h1.2
            rw [← e] at q9
            rw [h1.1] at q9
            exact (nI_ltI (by omega) (by decide)).mp q9
          refine V.aload_n dX6_readPerson_80 rfl ?_
          refine V.getf (v := .ref (t)) okX6 3 fl_X6_25 dX6_readPerson_81 (by decide) H.1 (congrArg (fun z => some (Value.ref z)) (hr)) ?_
          refine V.iload_n dX6_readPerson_84 rfl ?_
          refine V.aload_n dX6_readPerson_85 rfl ?_
          refine V.getf okX6 2 fl_X6_18 dX6_readPerson_86 (by decide) H.1 rfl ?_
          refine V.getf okX7 5 fl_X6_63 dX6_readPerson_89 (by decide) K.1 rfl ?_
          rw [k5]
          refine V.cV2 (ci := 8) yoX8_addPerson ml_X6_106 im_X8_addPerson se_X8_addPerson dX6_readPerson_92 rfl HT1.1 (Nat.le_of_ble_eq_true rfl) (by omega) ⟨Nat.le_refl _, Nat.le_refl _⟩ rfl (Nat.le_of_ble_eq_true rfl) (tAdd_V (by omega) HT1 okS2.2.1.1 hlt) ?_
          rintro _ h5 ⟨rfl, HT1, oh5⟩
          have H := C6_kept H (oh5 _ (by omega)) (oh5 _ (by omega))
          have K := K.kept C7_ok (fun b hb1 hb2 => oh5 b (by have hb3 : b < _ := hb2; simp only [C7] at hb3; omega))
          have HT2 := HT2.kept C2_ok (fun b hb1 hb2 => oh5 b (by have hb3 : b < _ := hb2; simp only [C2] at hb3; omega))
          have HT3 := HT3.kept C2_ok (fun b hb1 hb2 => oh5 b (by have hb3 : b < _ := hb2; simp only [C2] at hb3; omega))
          have HT4 := HT4.kept (fun b hb1 hb2 => oh5 b (by omega))
          have hb := (oh5 _ (by omega)).trans hb
          have hfr : ∀ x : Nat, ((x < a ∨ a + 23 ≤ x) ∧ (x < t ∨ t + 19 ≤ x)) → h5 x = h x := fun x hx => (oh5 x (by omega)).trans (hfr x hx)
          have HP : isP _ a t tp n b (setT S2 (tAdd S2.2.1.1 (nat (S2.2.1.1.1 0)) S1.1.2.2.2 S2.1.2.2.2, S2.2.1.2)) := ⟨_, H, hr, e0, e1, e4, e5, e6, ⟨_, K, kr, k1, k2, k3, k4, k5⟩, ⟨HT1, HT2, HT3, HT4⟩, hb⟩
          obtain ⟨S3, hS3⟩ : ∃ x, x = setT S2 (tAdd S2.2.1.1 (nat (S2.2.1.1.1 0)) S1.1.2.2.2 S2.1.2.2.2, S2.2.1.2) := ⟨_, rfl⟩
          rw [← hS3] at HP
          have okS3 : okS n S3 := by rw [hS3]; exact okS2.pers hlt
          obtain ⟨s, H, hr, e0, e1, e4, e5, e6, HK, HT, hb⟩ := id HP
          obtain ⟨sk, K, kr, k1, k2, k3, k4, k5⟩ := id HK
          obtain ⟨HT1, HT2, HT3, HT4⟩ := id HT
          refine V.aload_n dX6_readPerson_95 rfl ?_
          refine V.getf okX6 2 fl_X6_18 dX6_readPerson_96 (by decide) H.1 rfl ?_
          refine V.cV0 (ci := 7) yoX7_step ml_X6_54 im_X7_step se_X7_step dX6_readPerson_99 rfl K.1 (Nat.le_of_ble_eq_true rfl) (by omega) ⟨Nat.le_refl _, Nat.le_refl _⟩ rfl (Nat.le_of_ble_eq_true rfl) (step_V (q := (S3).1) (b := b) (n := n) (by omega) ⟨_, K, kr, k1, k2, k3, k4, k5⟩ hb hn okS3.1 hbb (by omega)) ?_
          rintro _ h6 ⟨rfl, HK, ooh6⟩
          have oh6 : ∀ x : Nat, ¬ x = a + 1 → h6 x = h5 x := fun x hx => ooh6 x (by omega)
          obtain ⟨sk, K, kr, k1, k2, k3, k4, k5⟩ := id HK
          have H := C6_kept H (oh6 _ (by omega)) (oh6 _ (by omega))
          have HT1 := HT1.kept C8_ok (fun b hb1 hb2 => oh6 b (by have hb3 : b < _ := hb2; simp only [C8] at hb3; omega))
          have HT2 := HT2.kept C2_ok (fun b hb1 hb2 => oh6 b (by have hb3 : b < _ := hb2; simp only [C2] at hb3; omega))
          have HT3 := HT3.kept C2_ok (fun b hb1 hb2 => oh6 b (by have hb3 : b < _ := hb2; simp only [C2] at hb3; omega))
          have HT4 := HT4.kept (fun b hb1 hb2 => oh6 b (by omega))
          have hb := (oh6 _ (by omega)).trans hb
          have hfr : ∀ x : Nat, ((x < a ∨ a + 23 ≤ x) ∧ (x < t ∨ t + 19 ≤ x)) → h6 x = h x := fun x hx => (oh6 x (by omega)).trans (hfr x hx)
          have HP : isP _ a t tp n b (stepP b n S3) := ⟨_, H, hr, e0, e1, e4, e5, e6, ⟨_, K, kr, k1, k2, k3, k4, k5⟩, ⟨HT1, HT2, HT3, HT4⟩, hb⟩
          refine V.iconst (v := 1) dX6_readPerson_102 (by decide) ?_
          refine V.zret .boolean dX6_readPerson_103 rfl (rfl) ?_
          have hE : rPers b n S = (true, stepP b n S3) := by unfold rPers; rw [if_pos q9, ← hS1, bindP_k q31.1, rPers1, if_pos q52, ← hS2, bindP_k q75.1, rPers2, ← hS3]
          exact ⟨by rw [hE]; rfl, by rw [hE]; exact HP, hfr⟩
        · skip
          have q75 := bI_f c75
          refine V.iconst (v := 0) dX6_readPerson_78 (by decide) ?_
          refine V.zret .boolean dX6_readPerson_79 rfl (rfl) ?_
          have hE : rPers b n S = numP 1 60 S2 := by unfold rPers; rw [if_pos q9, ← hS1, bindP_k q31.1, rPers1, if_pos q52, ← hS2, bindP_f q75]
          exact ⟨by rw [hE, q75]; rfl, by rw [hE]; exact HP, hfr⟩
      · skip
        have q52 : ¬ findP S1 < 0 := c52
        refine V.aload_n dX6_readPerson_55 rfl ?_
        refine V.iconst (v := 3) dX6_readPerson_56 (by decide) ?_
        refine V.cV1 (ci := 6) yoX6_fails ml_X6_60 im_X6_fails se_X6_fails dX6_readPerson_57 rfl H.1 (Nat.le_of_ble_eq_true rfl) (by omega) ⟨Nat.le_refl _, Nat.le_refl _⟩ rfl (Nat.le_of_ble_eq_true rfl) (fails_V (S := S1) (k := 3) (by omega) HP hs) ?_
        rintro _ h7 ⟨rfl, HP, ooh7⟩
        have oh7 : ∀ x : Nat, ¬ ((a ≤ x ∧ x < a + 23) ∨ (t ≤ x ∧ x < t + 19)) → h7 x = h2 x := fun x hx => ooh7 x (by omega)
        obtain ⟨s, H, hr, e0, e1, e4, e5, e6, HK, HT, hb⟩ := id HP
        obtain ⟨sk, K, kr, k1, k2, k3, k4, k5⟩ := id HK
        obtain ⟨HT1, HT2, HT3, HT4⟩ := id HT
        have hfr : ∀ x : Nat, ((x < a ∨ a + 23 ≤ x) ∧ (x < t ∨ t + 19 ≤ x)) → h7 x = h x := fun x hx => (oh7 x (by omega)).trans (hfr x hx)
        refine V.zret .boolean dX6_readPerson_60 rfl (rfl) ?_
        have hE : rPers b n S = (false, failP 3 S1) := by unfold rPers; rw [if_pos q9, ← hS1, bindP_k q31.1, rPers1, if_neg q52]
        exact ⟨by rw [hE]; rfl, by rw [hE]; exact HP, hfr⟩
    · skip
      have q31 := bI_f c31
      refine V.iconst (v := 0) dX6_readPerson_34 (by decide) ?_
      refine V.zret .boolean dX6_readPerson_35 rfl (rfl) ?_
      have hE : rPers b n S = nextP (-4) S1 := by unfold rPers; rw [if_pos q9, ← hS1, bindP_f q31]
      exact ⟨by rw [hE, q31]; rfl, by rw [hE]; exact HP, hfr⟩
  · skip
    have q9 : ¬ S.2.1.1.1 0 < 6 := c9
    refine V.aload_n dX6_readPerson_12 rfl ?_
    refine V.iconst (v := 2) dX6_readPerson_13 (by decide) ?_
    refine V.cV1 (ci := 6) yoX6_fails ml_X6_60 im_X6_fails se_X6_fails dX6_readPerson_14 rfl H.1 (Nat.le_of_ble_eq_true rfl) (by omega) ⟨Nat.le_refl _, Nat.le_refl _⟩ rfl (Nat.le_of_ble_eq_true rfl) (fails_V (S := S) (k := 2) (by omega) HP hs) ?_
    rintro _ h8 ⟨rfl, HP, ooh8⟩
    have oh8 : ∀ x : Nat, ¬ ((a ≤ x ∧ x < a + 23) ∨ (t ≤ x ∧ x < t + 19)) → h8 x = h x := fun x hx => ooh8 x (by omega)
    obtain ⟨s, H, hr, e0, e1, e4, e5, e6, HK, HT, hb⟩ := id HP
    obtain ⟨sk, K, kr, k1, k2, k3, k4, k5⟩ := id HK
    obtain ⟨HT1, HT2, HT3, HT4⟩ := id HT
    have hfr : ∀ x : Nat, ((x < a ∨ a + 23 ≤ x) ∧ (x < t ∨ t + 19 ≤ x)) → h8 x = h x := fun x hx => (oh8 x (by omega)).trans (hfr x hx)
    refine V.zret .boolean dX6_readPerson_17 rfl (rfl) ?_
    have hE : rPers b n S = (false, failP 2 S) := by unfold rPers; rw [if_neg q9]
    exact ⟨by rw [hE]; rfl, by rw [hE]; exact HP, hfr⟩
set_option maxRecDepth 100000 in
set_option maxHeartbeats 4000000 in
theorem rDraft_V {d n0 : Nat} {κ : Kd} (hd : 6 ≤ d) {h : Hp} {a t tp n : Nat} {b : Nat → Int32} {S : PS} (HP : isP h a t tp n b S) (hs : sepP a t tp) (hn : n ≤ 700) (hbb : ∀ k, k < n → ¬ b k = -1) (okQ : okS n S) : V MX6_readDraft (d, 0, 0, n0, κ) 0 0 h 0 [some (.ref a)] [] (fun v h' => v = some (.int (bI (rDraft b n S).1)) ∧ isP h' a t tp n b (rDraft b n S).2 ∧ ∀ x : Nat, ((x < a ∨ a + 23 ≤ x) ∧ (x < t ∨ t + 19 ≤ x)) → h' x = h x) := by
  obtain ⟨s, H, hr, e0, e1, e4, e5, e6, HK, HT, hb⟩ := id HP
  obtain ⟨sk, K, kr, k1, k2, k3, k4, k5⟩ := id HK
  obtain ⟨HT1, HT2, HT3, HT4⟩ := id HT
  have sp1 := hs.1
  have sp2 := hs.2.1
  have sp3 := hs.2.2
  have hfr : ∀ x : Nat, ((x < a ∨ a + 23 ≤ x) ∧ (x < t ∨ t + 19 ≤ x)) → h x = h x := fun _ _ => rfl
  refine V.aload_n dX6_readDraft_0 rfl ?_
  refine V.getf (v := .ref (t)) okX6 3 fl_X6_25 dX6_readDraft_1 (by decide) H.1 (congrArg (fun z => some (Value.ref z)) (hr)) ?_
  refine V.getf okX8 12 fl_X6_138 dX6_readDraft_4 (by decide) HT1.1 rfl ?_
  refine V.if_eq 16 dX6_readDraft_7 (by decide) (fun c7 => ?_) (fun c7 => ?_)
  · skip
    have q7 : S.2.1.1.1 12 = 0 := c7
    refine V.aload_n dX6_readDraft_16 rfl ?_
    refine V.getf okX6 2 fl_X6_18 dX6_readDraft_17 (by decide) H.1 rfl ?_
    refine V.cV0 (ci := 7) yoX7_step ml_X6_54 im_X7_step se_X7_step dX6_readDraft_20 rfl K.1 (Nat.le_of_ble_eq_true rfl) (by omega) ⟨Nat.le_refl _, Nat.le_refl _⟩ rfl (Nat.le_of_ble_eq_true rfl) (step_V (q := (S).1) (b := b) (n := n) (by omega) ⟨_, K, kr, k1, k2, k3, k4, k5⟩ hb hn okQ.1 hbb (by omega)) ?_
    rintro _ h1 ⟨rfl, HK, ooh1⟩
    have oh1 : ∀ x : Nat, ¬ x = a + 1 → h1 x = h x := fun x hx => ooh1 x (by omega)
    obtain ⟨sk, K, kr, k1, k2, k3, k4, k5⟩ := id HK
    have H := C6_kept H (oh1 _ (by omega)) (oh1 _ (by omega))
    have HT1 := HT1.kept C8_ok (fun b hb1 hb2 => oh1 b (by have hb3 : b < _ := hb2; simp only [C8] at hb3; omega))
    have HT2 := HT2.kept C2_ok (fun b hb1 hb2 => oh1 b (by have hb3 : b < _ := hb2; simp only [C2] at hb3; omega))
    have HT3 := HT3.kept C2_ok (fun b hb1 hb2 => oh1 b (by have hb3 : b < _ := hb2; simp only [C2] at hb3; omega))
    have HT4 := HT4.kept (fun b hb1 hb2 => oh1 b (by omega))
    have hb := (oh1 _ (by omega)).trans hb
    have hfr : ∀ x : Nat, ((x < a ∨ a + 23 ≤ x) ∧ (x < t ∨ t + 19 ≤ x)) → h1 x = h x := fun x hx => (oh1 x (by omega)).trans (hfr x hx)
    have HP : isP _ a t tp n b (stepP b n S) := ⟨_, H, hr, e0, e1, e4, e5, e6, ⟨_, K, kr, k1, k2, k3, k4, k5⟩, ⟨HT1, HT2, HT3, HT4⟩, hb⟩
    obtain ⟨S1, hS1⟩ : ∃ x, x = stepP b n S := ⟨_, rfl⟩
    rw [← hS1] at HP
    have okS1 : okS n S1 := by rw [hS1]; exact okS_step okQ
    obtain ⟨s, H, hr, e0, e1, e4, e5, e6, HK, HT, hb⟩ := id HP
    obtain ⟨sk, K, kr, k1, k2, k3, k4, k5⟩ := id HK
    obtain ⟨HT1, HT2, HT3, HT4⟩ := id HT
    refine V.aload_n dX6_readDraft_23 rfl ?_
    refine V.iconst (v := 0) dX6_readDraft_24 (by decide) ?_
    refine V.bipush (v := 100) dX6_readDraft_25 (by decide) ?_
    refine V.cV2 (ci := 6) yoX6_isNumber ml_X6_102 im_X6_isNumber se_X6_isNumber dX6_readDraft_27 rfl H.1 (Nat.le_of_ble_eq_true rfl) (by omega) ⟨Nat.le_refl _, Nat.le_refl _⟩ rfl (Nat.le_of_ble_eq_true rfl) (isNumber_V (S := S1) (lo := 0) (hi := 100) (by omega) HP hs) ?_
    rintro _ h2 ⟨rfl, HP, ooh2⟩
    have oh2 : ∀ x : Nat, ¬ ((a ≤ x ∧ x < a + 23) ∨ (t ≤ x ∧ x < t + 19)) → h2 x = h1 x := fun x hx => ooh2 x (by omega)
    obtain ⟨s, H, hr, e0, e1, e4, e5, e6, HK, HT, hb⟩ := id HP
    obtain ⟨sk, K, kr, k1, k2, k3, k4, k5⟩ := id HK
    obtain ⟨HT1, HT2, HT3, HT4⟩ := id HT
    have hfr : ∀ x : Nat, ((x < a ∨ a + 23 ≤ x) ∧ (x < t ∨ t + 19 ≤ x)) → h2 x = h x := fun x hx => (oh2 x (by omega)).trans (hfr x hx)
    refine V.if_ne 35 dX6_readDraft_30 (by decide) (fun c30 => ?_) (fun c30 => ?_)
    · skip
      have q30 := numP_t (bI_t c30)
      rw [q30.1] at HP
      obtain ⟨s, H, hr, e0, e1, e4, e5, e6, HK, HT, hb⟩ := id HP
      obtain ⟨sk, K, kr, k1, k2, k3, k4, k5⟩ := id HK
      obtain ⟨HT1, HT2, HT3, HT4⟩ := id HT
      refine V.aload_n dX6_readDraft_35 rfl ?_
      refine V.getf (v := .ref (t)) okX6 3 fl_X6_25 dX6_readDraft_36 (by decide) H.1 (congrArg (fun z => some (Value.ref z)) (hr)) ?_
      refine V.iconst (v := 1) dX6_readDraft_39 (by decide) ?_
      refine V.putfH okX8 12 fl_X6_138 dX6_readDraft_40 (by decide) rfl HT1.1 (rfl) (rfl) (Nat.le_of_ble_eq_true rfl) (fun h3 eh3 oh3 => ?_)
      have HT1 := isR.setI C8_ok HT1 12 _ (fun _ _ => rfl) eh3 oh3
      have H := C6_kept H (oh3 _ (by omega)) (oh3 _ (by omega))
      have K := K.kept C7_ok (fun b hb1 hb2 => oh3 b (by have hb3 : b < _ := hb2; simp only [C7] at hb3; omega))
      have HT2 := HT2.kept C2_ok (fun b hb1 hb2 => oh3 b (by have hb3 : b < _ := hb2; simp only [C2] at hb3; omega))
      have HT3 := HT3.kept C2_ok (fun b hb1 hb2 => oh3 b (by have hb3 : b < _ := hb2; simp only [C2] at hb3; omega))
      have HT4 := HT4.kept (fun b hb1 hb2 => oh3 b (by omega))
      have hb := (oh3 _ (by omega)).trans hb
      have hfr : ∀ x : Nat, ((x < a ∨ a + 23 ≤ x) ∧ (x < t ∨ t + 19 ≤ x)) → h3 x = h x := fun x hx => (oh3 x (by omega)).trans (hfr x hx)
      refine V.aload_n dX6_readDraft_43 rfl ?_
      refine V.getf (v := .ref (t)) okX6 3 fl_X6_25 dX6_readDraft_44 (by decide) H.1 (congrArg (fun z => some (Value.ref z)) (hr)) ?_
      refine V.aload_n dX6_readDraft_47 rfl ?_
      refine V.getf okX6 2 fl_X6_18 dX6_readDraft_48 (by decide) H.1 rfl ?_
      refine V.getf okX7 5 fl_X6_63 dX6_readDraft_51 (by decide) K.1 rfl ?_
      rw [k5]
      refine V.putfH okX8 10 fl_X6_142 dX6_readDraft_54 (by decide) rfl HT1.1 (rfl) (rfl) (Nat.le_of_ble_eq_true rfl) (fun h4 eh4 oh4 => ?_)
      have HT1 := isR.setI C8_ok HT1 10 _ (fun _ _ => rfl) eh4 oh4
      have H := C6_kept H (oh4 _ (by omega)) (oh4 _ (by omega))
      have K := K.kept C7_ok (fun b hb1 hb2 => oh4 b (by have hb3 : b < _ := hb2; simp only [C7] at hb3; omega))
      have HT2 := HT2.kept C2_ok (fun b hb1 hb2 => oh4 b (by have hb3 : b < _ := hb2; simp only [C2] at hb3; omega))
      have HT3 := HT3.kept C2_ok (fun b hb1 hb2 => oh4 b (by have hb3 : b < _ := hb2; simp only [C2] at hb3; omega))
      have HT4 := HT4.kept (fun b hb1 hb2 => oh4 b (by omega))
      have hb := (oh4 _ (by omega)).trans hb
      have hfr : ∀ x : Nat, ((x < a ∨ a + 23 ≤ x) ∧ (x < t ∨ t + 19 ≤ x)) → h4 x = h x := fun x hx => (oh4 x (by omega)).trans (hfr x hx)
      have HP : isP _ a t tp n b (setT S1 ((upd (upd S1.2.1.1.1 12 1) 10 S1.1.2.2.2, S1.2.1.1.2), S1.2.1.2)) := ⟨_, H, hr, e0, e1, e4, e5, e6, ⟨_, K, kr, k1, k2, k3, k4, k5⟩, ⟨HT1, HT2, HT3, HT4⟩, hb⟩
      obtain ⟨S2, hS2⟩ : ∃ x, x = setT S1 ((upd (upd S1.2.1.1.1 12 1) 10 S1.1.2.2.2, S1.2.1.1.2), S1.2.1.2) := ⟨_, rfl⟩
      rw [← hS2] at HP
      have okS2 : okS n S2 := by rw [hS2]; exact okS1
      obtain ⟨s, H, hr, e0, e1, e4, e5, e6, HK, HT, hb⟩ := id HP
      obtain ⟨sk, K, kr, k1, k2, k3, k4, k5⟩ := id HK
      obtain ⟨HT1, HT2, HT3, HT4⟩ := id HT
      refine V.aload_n dX6_readDraft_57 rfl ?_
      refine V.getf okX6 2 fl_X6_18 dX6_readDraft_58 (by decide) H.1 rfl ?_
      refine V.cV0 (ci := 7) yoX7_step ml_X6_54 im_X7_step se_X7_step dX6_readDraft_61 rfl K.1 (Nat.le_of_ble_eq_true rfl) (by omega) ⟨Nat.le_refl _, Nat.le_refl _⟩ rfl (Nat.le_of_ble_eq_true rfl) (step_V (q := (S2).1) (b := b) (n := n) (by omega) ⟨_, K, kr, k1, k2, k3, k4, k5⟩ hb hn okS2.1 hbb (by omega)) ?_
      rintro _ h5 ⟨rfl, HK, ooh5⟩
      have oh5 : ∀ x : Nat, ¬ x = a + 1 → h5 x = h4 x := fun x hx => ooh5 x (by omega)
      obtain ⟨sk, K, kr, k1, k2, k3, k4, k5⟩ := id HK
      have H := C6_kept H (oh5 _ (by omega)) (oh5 _ (by omega))
      have HT1 := HT1.kept C8_ok (fun b hb1 hb2 => oh5 b (by have hb3 : b < _ := hb2; simp only [C8] at hb3; omega))
      have HT2 := HT2.kept C2_ok (fun b hb1 hb2 => oh5 b (by have hb3 : b < _ := hb2; simp only [C2] at hb3; omega))
      have HT3 := HT3.kept C2_ok (fun b hb1 hb2 => oh5 b (by have hb3 : b < _ := hb2; simp only [C2] at hb3; omega))
      have HT4 := HT4.kept (fun b hb1 hb2 => oh5 b (by omega))
      have hb := (oh5 _ (by omega)).trans hb
      have hfr : ∀ x : Nat, ((x < a ∨ a + 23 ≤ x) ∧ (x < t ∨ t + 19 ≤ x)) → h5 x = h x := fun x hx => (oh5 x (by omega)).trans (hfr x hx)
      have HP : isP _ a t tp n b (stepP b n S2) := ⟨_, H, hr, e0, e1, e4, e5, e6, ⟨_, K, kr, k1, k2, k3, k4, k5⟩, ⟨HT1, HT2, HT3, HT4⟩, hb⟩
      refine V.iconst (v := 1) dX6_readDraft_64 (by decide) ?_
      refine V.zret .boolean dX6_readDraft_65 rfl (rfl) ?_
      have hE : rDraft b n S = (true, stepP b n S2) := by unfold rDraft; rw [if_pos q7, ← hS1, bindP_k q30.1, rDraft1, ← hS2]
      exact ⟨by rw [hE]; rfl, by rw [hE]; exact HP, hfr⟩
    · skip
      have q30 := bI_f c30
      refine V.iconst (v := 0) dX6_readDraft_33 (by decide) ?_
      refine V.zret .boolean dX6_readDraft_34 rfl (rfl) ?_
      have hE : rDraft b n S = numP 0 100 S1 := by unfold rDraft; rw [if_pos q7, ← hS1, bindP_f q30]
      exact ⟨by rw [hE, q30]; rfl, by rw [hE]; exact HP, hfr⟩
  · skip
    have q7 : ¬ S.2.1.1.1 12 = 0 := c7
    refine V.aload_n dX6_readDraft_10 rfl ?_
    refine V.iconst (v := 3) dX6_readDraft_11 (by decide) ?_
    refine V.cV1 (ci := 6) yoX6_fails ml_X6_60 im_X6_fails se_X6_fails dX6_readDraft_12 rfl H.1 (Nat.le_of_ble_eq_true rfl) (by omega) ⟨Nat.le_refl _, Nat.le_refl _⟩ rfl (Nat.le_of_ble_eq_true rfl) (fails_V (S := S) (k := 3) (by omega) HP hs) ?_
    rintro _ h6 ⟨rfl, HP, ooh6⟩
    have oh6 : ∀ x : Nat, ¬ ((a ≤ x ∧ x < a + 23) ∨ (t ≤ x ∧ x < t + 19)) → h6 x = h x := fun x hx => ooh6 x (by omega)
    obtain ⟨s, H, hr, e0, e1, e4, e5, e6, HK, HT, hb⟩ := id HP
    obtain ⟨sk, K, kr, k1, k2, k3, k4, k5⟩ := id HK
    obtain ⟨HT1, HT2, HT3, HT4⟩ := id HT
    have hfr : ∀ x : Nat, ((x < a ∨ a + 23 ≤ x) ∧ (x < t ∨ t + 19 ≤ x)) → h6 x = h x := fun x hx => (oh6 x (by omega)).trans (hfr x hx)
    refine V.zret .boolean dX6_readDraft_15 rfl (rfl) ?_
    have hE : rDraft b n S = (false, failP 3 S) := by unfold rDraft; rw [if_neg q7]
    exact ⟨by rw [hE]; rfl, by rw [hE]; exact HP, hfr⟩
set_option maxRecDepth 100000 in
set_option maxHeartbeats 4000000 in
theorem rSeed_V {d n0 : Nat} {κ : Kd} (hd : 6 ≤ d) {h : Hp} {a t tp n : Nat} {b : Nat → Int32} {S : PS} (HP : isP h a t tp n b S) (hs : sepP a t tp) (hn : n ≤ 700) (hbb : ∀ k, k < n → ¬ b k = -1) (okQ : okS n S) : V MX6_readSeed (d, 0, 0, n0, κ) 0 0 h 0 [some (.ref a)] [] (fun v h' => v = some (.int (bI (rSeed b n S).1)) ∧ isP h' a t tp n b (rSeed b n S).2 ∧ ∀ x : Nat, ((x < a ∨ a + 23 ≤ x) ∧ (x < t ∨ t + 19 ≤ x)) → h' x = h x) := by
  obtain ⟨s, H, hr, e0, e1, e4, e5, e6, HK, HT, hb⟩ := id HP
  obtain ⟨sk, K, kr, k1, k2, k3, k4, k5⟩ := id HK
  obtain ⟨HT1, HT2, HT3, HT4⟩ := id HT
  have sp1 := hs.1
  have sp2 := hs.2.1
  have sp3 := hs.2.2
  have hfr : ∀ x : Nat, ((x < a ∨ a + 23 ≤ x) ∧ (x < t ∨ t + 19 ≤ x)) → h x = h x := fun _ _ => rfl
  refine V.aload_n dX6_readSeed_0 rfl ?_
  refine V.getf (v := .ref (t)) okX6 3 fl_X6_25 dX6_readSeed_1 (by decide) H.1 (congrArg (fun z => some (Value.ref z)) (hr)) ?_
  refine V.getf okX8 13 fl_X6_145 dX6_readSeed_4 (by decide) HT1.1 rfl ?_
  refine V.if_eq 16 dX6_readSeed_7 (by decide) (fun c7 => ?_) (fun c7 => ?_)
  · skip
    have q7 : S.2.1.1.1 13 = 0 := c7
    refine V.aload_n dX6_readSeed_16 rfl ?_
    refine V.getf okX6 2 fl_X6_18 dX6_readSeed_17 (by decide) H.1 rfl ?_
    refine V.cV0 (ci := 7) yoX7_step ml_X6_54 im_X7_step se_X7_step dX6_readSeed_20 rfl K.1 (Nat.le_of_ble_eq_true rfl) (by omega) ⟨Nat.le_refl _, Nat.le_refl _⟩ rfl (Nat.le_of_ble_eq_true rfl) (step_V (q := (S).1) (b := b) (n := n) (by omega) ⟨_, K, kr, k1, k2, k3, k4, k5⟩ hb hn okQ.1 hbb (by omega)) ?_
    rintro _ h1 ⟨rfl, HK, ooh1⟩
    have oh1 : ∀ x : Nat, ¬ x = a + 1 → h1 x = h x := fun x hx => ooh1 x (by omega)
    obtain ⟨sk, K, kr, k1, k2, k3, k4, k5⟩ := id HK
    have H := C6_kept H (oh1 _ (by omega)) (oh1 _ (by omega))
    have HT1 := HT1.kept C8_ok (fun b hb1 hb2 => oh1 b (by have hb3 : b < _ := hb2; simp only [C8] at hb3; omega))
    have HT2 := HT2.kept C2_ok (fun b hb1 hb2 => oh1 b (by have hb3 : b < _ := hb2; simp only [C2] at hb3; omega))
    have HT3 := HT3.kept C2_ok (fun b hb1 hb2 => oh1 b (by have hb3 : b < _ := hb2; simp only [C2] at hb3; omega))
    have HT4 := HT4.kept (fun b hb1 hb2 => oh1 b (by omega))
    have hb := (oh1 _ (by omega)).trans hb
    have hfr : ∀ x : Nat, ((x < a ∨ a + 23 ≤ x) ∧ (x < t ∨ t + 19 ≤ x)) → h1 x = h x := fun x hx => (oh1 x (by omega)).trans (hfr x hx)
    have HP : isP _ a t tp n b (stepP b n S) := ⟨_, H, hr, e0, e1, e4, e5, e6, ⟨_, K, kr, k1, k2, k3, k4, k5⟩, ⟨HT1, HT2, HT3, HT4⟩, hb⟩
    obtain ⟨S1, hS1⟩ : ∃ x, x = stepP b n S := ⟨_, rfl⟩
    rw [← hS1] at HP
    have okS1 : okS n S1 := by rw [hS1]; exact okS_step okQ
    obtain ⟨s, H, hr, e0, e1, e4, e5, e6, HK, HT, hb⟩ := id HP
    obtain ⟨sk, K, kr, k1, k2, k3, k4, k5⟩ := id HK
    obtain ⟨HT1, HT2, HT3, HT4⟩ := id HT
    refine V.aload_n dX6_readSeed_23 rfl ?_
    refine V.iconst (v := 0) dX6_readSeed_24 (by decide) ?_
    refine V.ldc kc_X6_148 dX6_readSeed_25 ?_
    refine V.cV2 (ci := 6) yoX6_isNumber ml_X6_102 im_X6_isNumber se_X6_isNumber dX6_readSeed_27 rfl H.1 (Nat.le_of_ble_eq_true rfl) (by omega) ⟨Nat.le_refl _, Nat.le_refl _⟩ rfl (Nat.le_of_ble_eq_true rfl) (isNumber_V (S := S1) (lo := 0) (hi := 99999) (by omega) HP hs) ?_
    rintro _ h2 ⟨rfl, HP, ooh2⟩
    have oh2 : ∀ x : Nat, ¬ ((a ≤ x ∧ x < a + 23) ∨ (t ≤ x ∧ x < t + 19)) → h2 x = h1 x := fun x hx => ooh2 x (by omega)
    obtain ⟨s, H, hr, e0, e1, e4, e5, e6, HK, HT, hb⟩ := id HP
    obtain ⟨sk, K, kr, k1, k2, k3, k4, k5⟩ := id HK
    obtain ⟨HT1, HT2, HT3, HT4⟩ := id HT
    have hfr : ∀ x : Nat, ((x < a ∨ a + 23 ≤ x) ∧ (x < t ∨ t + 19 ≤ x)) → h2 x = h x := fun x hx => (oh2 x (by omega)).trans (hfr x hx)
    refine V.if_ne 35 dX6_readSeed_30 (by decide) (fun c30 => ?_) (fun c30 => ?_)
    · skip
      have q30 := numP_t (bI_t c30)
      rw [q30.1] at HP
      obtain ⟨s, H, hr, e0, e1, e4, e5, e6, HK, HT, hb⟩ := id HP
      obtain ⟨sk, K, kr, k1, k2, k3, k4, k5⟩ := id HK
      obtain ⟨HT1, HT2, HT3, HT4⟩ := id HT
      refine V.aload_n dX6_readSeed_35 rfl ?_
      refine V.getf (v := .ref (t)) okX6 3 fl_X6_25 dX6_readSeed_36 (by decide) H.1 (congrArg (fun z => some (Value.ref z)) (hr)) ?_
      refine V.iconst (v := 1) dX6_readSeed_39 (by decide) ?_
      refine V.putfH okX8 13 fl_X6_145 dX6_readSeed_40 (by decide) rfl HT1.1 (rfl) (rfl) (Nat.le_of_ble_eq_true rfl) (fun h3 eh3 oh3 => ?_)
      have HT1 := isR.setI C8_ok HT1 13 _ (fun _ _ => rfl) eh3 oh3
      have H := C6_kept H (oh3 _ (by omega)) (oh3 _ (by omega))
      have K := K.kept C7_ok (fun b hb1 hb2 => oh3 b (by have hb3 : b < _ := hb2; simp only [C7] at hb3; omega))
      have HT2 := HT2.kept C2_ok (fun b hb1 hb2 => oh3 b (by have hb3 : b < _ := hb2; simp only [C2] at hb3; omega))
      have HT3 := HT3.kept C2_ok (fun b hb1 hb2 => oh3 b (by have hb3 : b < _ := hb2; simp only [C2] at hb3; omega))
      have HT4 := HT4.kept (fun b hb1 hb2 => oh3 b (by omega))
      have hb := (oh3 _ (by omega)).trans hb
      have hfr : ∀ x : Nat, ((x < a ∨ a + 23 ≤ x) ∧ (x < t ∨ t + 19 ≤ x)) → h3 x = h x := fun x hx => (oh3 x (by omega)).trans (hfr x hx)
      refine V.aload_n dX6_readSeed_43 rfl ?_
      refine V.getf (v := .ref (t)) okX6 3 fl_X6_25 dX6_readSeed_44 (by decide) H.1 (congrArg (fun z => some (Value.ref z)) (hr)) ?_
      refine V.aload_n dX6_readSeed_47 rfl ?_
      refine V.getf okX6 2 fl_X6_18 dX6_readSeed_48 (by decide) H.1 rfl ?_
      refine V.getf okX7 5 fl_X6_63 dX6_readSeed_51 (by decide) K.1 rfl ?_
      rw [k5]
      refine V.putfH okX8 11 fl_X6_149 dX6_readSeed_54 (by decide) rfl HT1.1 (rfl) (rfl) (Nat.le_of_ble_eq_true rfl) (fun h4 eh4 oh4 => ?_)
      have HT1 := isR.setI C8_ok HT1 11 _ (fun _ _ => rfl) eh4 oh4
      have H := C6_kept H (oh4 _ (by omega)) (oh4 _ (by omega))
      have K := K.kept C7_ok (fun b hb1 hb2 => oh4 b (by have hb3 : b < _ := hb2; simp only [C7] at hb3; omega))
      have HT2 := HT2.kept C2_ok (fun b hb1 hb2 => oh4 b (by have hb3 : b < _ := hb2; simp only [C2] at hb3; omega))
      have HT3 := HT3.kept C2_ok (fun b hb1 hb2 => oh4 b (by have hb3 : b < _ := hb2; simp only [C2] at hb3; omega))
      have HT4 := HT4.kept (fun b hb1 hb2 => oh4 b (by omega))
      have hb := (oh4 _ (by omega)).trans hb
      have hfr : ∀ x : Nat, ((x < a ∨ a + 23 ≤ x) ∧ (x < t ∨ t + 19 ≤ x)) → h4 x = h x := fun x hx => (oh4 x (by omega)).trans (hfr x hx)
      have HP : isP _ a t tp n b (setT S1 ((upd (upd S1.2.1.1.1 13 1) 11 S1.1.2.2.2, S1.2.1.1.2), S1.2.1.2)) := ⟨_, H, hr, e0, e1, e4, e5, e6, ⟨_, K, kr, k1, k2, k3, k4, k5⟩, ⟨HT1, HT2, HT3, HT4⟩, hb⟩
      obtain ⟨S2, hS2⟩ : ∃ x, x = setT S1 ((upd (upd S1.2.1.1.1 13 1) 11 S1.1.2.2.2, S1.2.1.1.2), S1.2.1.2) := ⟨_, rfl⟩
      rw [← hS2] at HP
      have okS2 : okS n S2 := by rw [hS2]; exact okS1
      obtain ⟨s, H, hr, e0, e1, e4, e5, e6, HK, HT, hb⟩ := id HP
      obtain ⟨sk, K, kr, k1, k2, k3, k4, k5⟩ := id HK
      obtain ⟨HT1, HT2, HT3, HT4⟩ := id HT
      refine V.aload_n dX6_readSeed_57 rfl ?_
      refine V.getf okX6 2 fl_X6_18 dX6_readSeed_58 (by decide) H.1 rfl ?_
      refine V.cV0 (ci := 7) yoX7_step ml_X6_54 im_X7_step se_X7_step dX6_readSeed_61 rfl K.1 (Nat.le_of_ble_eq_true rfl) (by omega) ⟨Nat.le_refl _, Nat.le_refl _⟩ rfl (Nat.le_of_ble_eq_true rfl) (step_V (q := (S2).1) (b := b) (n := n) (by omega) ⟨_, K, kr, k1, k2, k3, k4, k5⟩ hb hn okS2.1 hbb (by omega)) ?_
      rintro _ h5 ⟨rfl, HK, ooh5⟩
      have oh5 : ∀ x : Nat, ¬ x = a + 1 → h5 x = h4 x := fun x hx => ooh5 x (by omega)
      obtain ⟨sk, K, kr, k1, k2, k3, k4, k5⟩ := id HK
      have H := C6_kept H (oh5 _ (by omega)) (oh5 _ (by omega))
      have HT1 := HT1.kept C8_ok (fun b hb1 hb2 => oh5 b (by have hb3 : b < _ := hb2; simp only [C8] at hb3; omega))
      have HT2 := HT2.kept C2_ok (fun b hb1 hb2 => oh5 b (by have hb3 : b < _ := hb2; simp only [C2] at hb3; omega))
      have HT3 := HT3.kept C2_ok (fun b hb1 hb2 => oh5 b (by have hb3 : b < _ := hb2; simp only [C2] at hb3; omega))
      have HT4 := HT4.kept (fun b hb1 hb2 => oh5 b (by omega))
      have hb := (oh5 _ (by omega)).trans hb
      have hfr : ∀ x : Nat, ((x < a ∨ a + 23 ≤ x) ∧ (x < t ∨ t + 19 ≤ x)) → h5 x = h x := fun x hx => (oh5 x (by omega)).trans (hfr x hx)
      have HP : isP _ a t tp n b (stepP b n S2) := ⟨_, H, hr, e0, e1, e4, e5, e6, ⟨_, K, kr, k1, k2, k3, k4, k5⟩, ⟨HT1, HT2, HT3, HT4⟩, hb⟩
      refine V.iconst (v := 1) dX6_readSeed_64 (by decide) ?_
      refine V.zret .boolean dX6_readSeed_65 rfl (rfl) ?_
      have hE : rSeed b n S = (true, stepP b n S2) := by unfold rSeed; rw [if_pos q7, ← hS1, bindP_k q30.1, rSeed1, ← hS2]
      exact ⟨by rw [hE]; rfl, by rw [hE]; exact HP, hfr⟩
    · skip
      have q30 := bI_f c30
      refine V.iconst (v := 0) dX6_readSeed_33 (by decide) ?_
      refine V.zret .boolean dX6_readSeed_34 rfl (rfl) ?_
      have hE : rSeed b n S = numP 0 99999 S1 := by unfold rSeed; rw [if_pos q7, ← hS1, bindP_f q30]
      exact ⟨by rw [hE, q30]; rfl, by rw [hE]; exact HP, hfr⟩
  · skip
    have q7 : ¬ S.2.1.1.1 13 = 0 := c7
    refine V.aload_n dX6_readSeed_10 rfl ?_
    refine V.iconst (v := 3) dX6_readSeed_11 (by decide) ?_
    refine V.cV1 (ci := 6) yoX6_fails ml_X6_60 im_X6_fails se_X6_fails dX6_readSeed_12 rfl H.1 (Nat.le_of_ble_eq_true rfl) (by omega) ⟨Nat.le_refl _, Nat.le_refl _⟩ rfl (Nat.le_of_ble_eq_true rfl) (fails_V (S := S) (k := 3) (by omega) HP hs) ?_
    rintro _ h6 ⟨rfl, HP, ooh6⟩
    have oh6 : ∀ x : Nat, ¬ ((a ≤ x ∧ x < a + 23) ∨ (t ≤ x ∧ x < t + 19)) → h6 x = h x := fun x hx => ooh6 x (by omega)
    obtain ⟨s, H, hr, e0, e1, e4, e5, e6, HK, HT, hb⟩ := id HP
    obtain ⟨sk, K, kr, k1, k2, k3, k4, k5⟩ := id HK
    obtain ⟨HT1, HT2, HT3, HT4⟩ := id HT
    have hfr : ∀ x : Nat, ((x < a ∨ a + 23 ≤ x) ∧ (x < t ∨ t + 19 ≤ x)) → h6 x = h x := fun x hx => (oh6 x (by omega)).trans (hfr x hx)
    refine V.zret .boolean dX6_readSeed_15 rfl (rfl) ?_
    have hE : rSeed b n S = (false, failP 3 S) := by unfold rSeed; rw [if_neg q7]
    exact ⟨by rw [hE]; rfl, by rw [hE]; exact HP, hfr⟩
set_option maxRecDepth 100000 in
set_option maxHeartbeats 4000000 in
theorem rJune_V {d n0 : Nat} {κ : Kd} (hd : 6 ≤ d) {h : Hp} {a t tp n : Nat} {b : Nat → Int32} {S : PS} (HP : isP h a t tp n b S) (hs : sepP a t tp) (hn : n ≤ 700) (hbb : ∀ k, k < n → ¬ b k = -1) (okQ : okS n S) : V MX6_readJune (d, 0, 0, n0, κ) 0 0 h 0 [some (.ref a), none] [] (fun v h' => v = some (.int (bI (rJune b n S).1)) ∧ isP h' a t tp n b (rJune b n S).2 ∧ ∀ x : Nat, ((x < a ∨ a + 23 ≤ x) ∧ (x < t ∨ t + 19 ≤ x)) → h' x = h x) := by
  obtain ⟨s, H, hr, e0, e1, e4, e5, e6, HK, HT, hb⟩ := id HP
  obtain ⟨sk, K, kr, k1, k2, k3, k4, k5⟩ := id HK
  obtain ⟨HT1, HT2, HT3, HT4⟩ := id HT
  have sp1 := hs.1
  have sp2 := hs.2.1
  have sp3 := hs.2.2
  have hfr : ∀ x : Nat, ((x < a ∨ a + 23 ≤ x) ∧ (x < t ∨ t + 19 ≤ x)) → h x = h x := fun _ _ => rfl
  refine V.aload_n dX6_readJune_0 rfl ?_
  refine V.getf (v := .ref (t)) okX6 3 fl_X6_25 dX6_readJune_1 (by decide) H.1 (congrArg (fun z => some (Value.ref z)) (hr)) ?_
  refine V.getf okX8 5 fl_X6_110 dX6_readJune_4 (by decide) HT1.1 rfl ?_
  refine V.bipush (v := 12) dX6_readJune_7 (by decide) ?_
  refine V.icmp_lt 18 dX6_readJune_9 (by decide) (fun c9 => ?_) (fun c9 => ?_)
  · skip
    have q9 : S.2.1.1.1 5 < 12 := c9
    refine V.aload_n dX6_readJune_18 rfl ?_
    refine V.getf okX6 2 fl_X6_18 dX6_readJune_19 (by decide) H.1 rfl ?_
    refine V.cV0 (ci := 7) yoX7_step ml_X6_54 im_X7_step se_X7_step dX6_readJune_22 rfl K.1 (Nat.le_of_ble_eq_true rfl) (by omega) ⟨Nat.le_refl _, Nat.le_refl _⟩ rfl (Nat.le_of_ble_eq_true rfl) (step_V (q := (S).1) (b := b) (n := n) (by omega) ⟨_, K, kr, k1, k2, k3, k4, k5⟩ hb hn okQ.1 hbb (by omega)) ?_
    rintro _ h1 ⟨rfl, HK, ooh1⟩
    have oh1 : ∀ x : Nat, ¬ x = a + 1 → h1 x = h x := fun x hx => ooh1 x (by omega)
    obtain ⟨sk, K, kr, k1, k2, k3, k4, k5⟩ := id HK
    have H := C6_kept H (oh1 _ (by omega)) (oh1 _ (by omega))
    have HT1 := HT1.kept C8_ok (fun b hb1 hb2 => oh1 b (by have hb3 : b < _ := hb2; simp only [C8] at hb3; omega))
    have HT2 := HT2.kept C2_ok (fun b hb1 hb2 => oh1 b (by have hb3 : b < _ := hb2; simp only [C2] at hb3; omega))
    have HT3 := HT3.kept C2_ok (fun b hb1 hb2 => oh1 b (by have hb3 : b < _ := hb2; simp only [C2] at hb3; omega))
    have HT4 := HT4.kept (fun b hb1 hb2 => oh1 b (by omega))
    have hb := (oh1 _ (by omega)).trans hb
    have hfr : ∀ x : Nat, ((x < a ∨ a + 23 ≤ x) ∧ (x < t ∨ t + 19 ≤ x)) → h1 x = h x := fun x hx => (oh1 x (by omega)).trans (hfr x hx)
    have HP : isP _ a t tp n b (stepP b n S) := ⟨_, H, hr, e0, e1, e4, e5, e6, ⟨_, K, kr, k1, k2, k3, k4, k5⟩, ⟨HT1, HT2, HT3, HT4⟩, hb⟩
    obtain ⟨S1, hS1⟩ : ∃ x, x = stepP b n S := ⟨_, rfl⟩
    rw [← hS1] at HP
    have okS1 : okS n S1 := by rw [hS1]; exact okS_step okQ
    obtain ⟨s, H, hr, e0, e1, e4, e5, e6, HK, HT, hb⟩ := id HP
    obtain ⟨sk, K, kr, k1, k2, k3, k4, k5⟩ := id HK
    obtain ⟨HT1, HT2, HT3, HT4⟩ := id HT
    refine V.aload_n dX6_readJune_25 rfl ?_
    refine V.cV0 (ci := 6) yoX6_isPersonTold ml_X6_113 im_X6_isPersonTold se_X6_isPersonTold dX6_readJune_26 rfl H.1 (Nat.le_of_ble_eq_true rfl) (by omega) ⟨Nat.le_refl _, Nat.le_refl _⟩ rfl (Nat.le_of_ble_eq_true rfl) (isPerson_V (S := S1) (by omega) HP hs okS1.2.1) ?_
    rintro _ h2 ⟨rfl, HP, ooh2⟩
    have oh2 : ∀ x : Nat, ¬ ((a ≤ x ∧ x < a + 23) ∨ (t ≤ x ∧ x < t + 19)) → h2 x = h1 x := fun x hx => ooh2 x (by omega)
    obtain ⟨s, H, hr, e0, e1, e4, e5, e6, HK, HT, hb⟩ := id HP
    obtain ⟨sk, K, kr, k1, k2, k3, k4, k5⟩ := id HK
    obtain ⟨HT1, HT2, HT3, HT4⟩ := id HT
    have hfr : ∀ x : Nat, ((x < a ∨ a + 23 ≤ x) ∧ (x < t ∨ t + 19 ≤ x)) → h2 x = h x := fun x hx => (oh2 x (by omega)).trans (hfr x hx)
    refine V.if_ne 34 dX6_readJune_29 (by decide) (fun c29 => ?_) (fun c29 => ?_)
    · skip
      have q29 := persP_t (bI_t c29)
      rw [q29.1] at HP
      obtain ⟨s, H, hr, e0, e1, e4, e5, e6, HK, HT, hb⟩ := id HP
      obtain ⟨sk, K, kr, k1, k2, k3, k4, k5⟩ := id HK
      obtain ⟨HT1, HT2, HT3, HT4⟩ := id HT
      refine V.aload_n dX6_readJune_34 rfl ?_
      refine V.getf (v := .ref (t)) okX6 3 fl_X6_25 dX6_readJune_35 (by decide) H.1 (congrArg (fun z => some (Value.ref z)) (hr)) ?_
      refine V.aload_n dX6_readJune_38 rfl ?_
      refine V.getf okX6 2 fl_X6_18 dX6_readJune_39 (by decide) H.1 rfl ?_
      refine V.getf okX7 5 fl_X6_63 dX6_readJune_42 (by decide) K.1 rfl ?_
      rw [k5]
      refine V.cV1 (ci := 8) yoX8_find ml_X6_66 im_X8_find se_X8_find dX6_readJune_45 rfl HT1.1 (Nat.le_of_ble_eq_true rfl) (by omega) ⟨Nat.le_refl _, Nat.le_refl _⟩ rfl (Nat.le_of_ble_eq_true rfl) (tFind_V (by omega) HT1 okS1.2.1.1 (by have := okS1.2.1.2; omega)) (V.rdK ?_)
      have hi6 : nat (findP S1) < 6 := by have h1 := (findP_ok okS1 q29.2.2).2; have h2 := okS1.2.1.2; omega
      refine V.eqi (y := nI (nat (findP S1))) (findP_ok okS1 q29.2.2).1 ?_
      refine V.istore_n dX6_readJune_48 (by decide) rfl ?_
      refine V.aload_n dX6_readJune_49 rfl ?_
      refine V.getf okX6 2 fl_X6_18 dX6_readJune_50 (by decide) H.1 rfl ?_
      refine V.cV0 (ci := 7) yoX7_step ml_X6_54 im_X7_step se_X7_step dX6_readJune_53 rfl K.1 (Nat.le_of_ble_eq_true rfl) (by omega) ⟨Nat.le_refl _, Nat.le_refl _⟩ rfl (Nat.le_of_ble_eq_true rfl) (step_V (q := (S1).1) (b := b) (n := n) (by omega) ⟨_, K, kr, k1, k2, k3, k4, k5⟩ hb hn okS1.1 hbb (by omega)) ?_
      rintro _ h3 ⟨rfl, HK, ooh3⟩
      have oh3 : ∀ x : Nat, ¬ x = a + 1 → h3 x = h2 x := fun x hx => ooh3 x (by omega)
      obtain ⟨sk, K, kr, k1, k2, k3, k4, k5⟩ := id HK
      have H := C6_kept H (oh3 _ (by omega)) (oh3 _ (by omega))
      have HT1 := HT1.kept C8_ok (fun b hb1 hb2 => oh3 b (by have hb3 : b < _ := hb2; simp only [C8] at hb3; omega))
      have HT2 := HT2.kept C2_ok (fun b hb1 hb2 => oh3 b (by have hb3 : b < _ := hb2; simp only [C2] at hb3; omega))
      have HT3 := HT3.kept C2_ok (fun b hb1 hb2 => oh3 b (by have hb3 : b < _ := hb2; simp only [C2] at hb3; omega))
      have HT4 := HT4.kept (fun b hb1 hb2 => oh3 b (by omega))
      have hb := (oh3 _ (by omega)).trans hb
      have hfr : ∀ x : Nat, ((x < a ∨ a + 23 ≤ x) ∧ (x < t ∨ t + 19 ≤ x)) → h3 x = h x := fun x hx => (oh3 x (by omega)).trans (hfr x hx)
      have HP : isP _ a t tp n b (stepP b n S1) := ⟨_, H, hr, e0, e1, e4, e5, e6, ⟨_, K, kr, k1, k2, k3, k4, k5⟩, ⟨HT1, HT2, HT3, HT4⟩, hb⟩
      obtain ⟨S2, hS2⟩ : ∃ x, x = stepP b n S1 := ⟨_, rfl⟩
      rw [← hS2] at HP
      have okS2 : okS n S2 := by rw [hS2]; exact okS_step okS1
      obtain ⟨s, H, hr, e0, e1, e4, e5, e6, HK, HT, hb⟩ := id HP
      obtain ⟨sk, K, kr, k1, k2, k3, k4, k5⟩ := id HK
      obtain ⟨HT1, HT2, HT3, HT4⟩ := id HT
      refine V.aload_n dX6_readJune_56 rfl ?_
      refine V.iconst (v := 0) dX6_readJune_57 (by decide) ?_
      refine V.bipush (v := 59) dX6_readJune_58 (by decide) ?_
      refine V.cV2 (ci := 6) yoX6_isNumber ml_X6_102 im_X6_isNumber se_X6_isNumber dX6_readJune_60 rfl H.1 (Nat.le_of_ble_eq_true rfl) (by omega) ⟨Nat.le_refl _, Nat.le_refl _⟩ rfl (Nat.le_of_ble_eq_true rfl) (isNumber_V (S := S2) (lo := 0) (hi := 59) (by omega) HP hs) ?_
      rintro _ h4 ⟨rfl, HP, ooh4⟩
      have oh4 : ∀ x : Nat, ¬ ((a ≤ x ∧ x < a + 23) ∨ (t ≤ x ∧ x < t + 19)) → h4 x = h3 x := fun x hx => ooh4 x (by omega)
      obtain ⟨s, H, hr, e0, e1, e4, e5, e6, HK, HT, hb⟩ := id HP
      obtain ⟨sk, K, kr, k1, k2, k3, k4, k5⟩ := id HK
      obtain ⟨HT1, HT2, HT3, HT4⟩ := id HT
      have hfr : ∀ x : Nat, ((x < a ∨ a + 23 ≤ x) ∧ (x < t ∨ t + 19 ≤ x)) → h4 x = h x := fun x hx => (oh4 x (by omega)).trans (hfr x hx)
      refine V.if_ne 68 dX6_readJune_63 (by decide) (fun c63 => ?_) (fun c63 => ?_)
      · skip
        have q63 := numP_t (bI_t c63)
        rw [q63.1] at HP
        obtain ⟨s, H, hr, e0, e1, e4, e5, e6, HK, HT, hb⟩ := id HP
        obtain ⟨sk, K, kr, k1, k2, k3, k4, k5⟩ := id HK
        obtain ⟨HT1, HT2, HT3, HT4⟩ := id HT
        refine V.aload_n dX6_readJune_68 rfl ?_
        refine V.getf (v := .ref (t)) okX6 3 fl_X6_25 dX6_readJune_69 (by decide) H.1 (congrArg (fun z => some (Value.ref z)) (hr)) ?_
        refine V.iload_n dX6_readJune_72 rfl ?_
        refine V.aload_n dX6_readJune_73 rfl ?_
        refine V.getf okX6 2 fl_X6_18 dX6_readJune_74 (by decide) H.1 rfl ?_
        refine V.getf okX7 5 fl_X6_63 dX6_readJune_77 (by decide) K.1 rfl ?_
        rw [k5]
        refine V.cV2 (ci := 8) yoX8_isJune ml_X6_116 im_X8_isJune se_X8_isJune dX6_readJune_80 rfl HT1.1 (Nat.le_of_ble_eq_true rfl) (by omega) ⟨Nat.le_refl _, Nat.le_refl _⟩ rfl (Nat.le_of_ble_eq_true rfl) (tJune_V (by omega) HT1 hi6) (V.rdK ?_)
        refine V.if_eq 92 dX6_readJune_83 (by decide) (fun c83 => ?_) (fun c83 => ?_)
        · skip
          have q83 := bI_f c83
          refine V.aload_n dX6_readJune_92 rfl ?_
          refine V.getf (v := .ref (t)) okX6 3 fl_X6_25 dX6_readJune_93 (by decide) H.1 (congrArg (fun z => some (Value.ref z)) (hr)) ?_
          refine V.getf okX8 3 fl_X6_119 dX6_readJune_96 (by decide) HT1.1 rfl ?_
          refine V.iload_n dX6_readJune_99 rfl ?_
          refine V.dup2 dX6_readJune_100 rfl rfl ?_
          refine V.laldN dX6_readJune_101 (C8_r3 HT1) (rfl) (by omega) (by decide) ?_
          refine V.lconst (v := 1) dX6_readJune_102 (by decide) ?_
          refine V.aload_n dX6_readJune_103 rfl ?_
          refine V.getf okX6 2 fl_X6_18 dX6_readJune_104 (by decide) H.1 rfl ?_
          refine V.getf okX7 5 fl_X6_63 dX6_readJune_107 (by decide) K.1 rfl ?_
          rw [k5]
          refine V.lshl dX6_readJune_110 ?_
          refine V.lor dX6_readJune_111 ?_
          refine V.lastH dX6_readJune_112 (C8_r3 HT1) (rfl) (by omega) (by decide) (fun h5 eh5 oh5 => ?_)
          have HT1 := isR.setJ C8_ok HT1 C8_in3 _ _ eh5 oh5
          have H := C6_kept H (oh5 _ (by omega)) (oh5 _ (by omega))
          have K := K.kept C7_ok (fun b hb1 hb2 => oh5 b (by have hb3 : b < _ := hb2; simp only [C7] at hb3; omega))
          have HT2 := HT2.kept C2_ok (fun b hb1 hb2 => oh5 b (by have hb3 : b < _ := hb2; simp only [C2] at hb3; omega))
          have HT3 := HT3.kept C2_ok (fun b hb1 hb2 => oh5 b (by have hb3 : b < _ := hb2; simp only [C2] at hb3; omega))
          have HT4 := HT4.kept (fun b hb1 hb2 => oh5 b (by omega))
          have hb := (oh5 _ (by omega)).trans hb
          have hfr : ∀ x : Nat, ((x < a ∨ a + 23 ≤ x) ∧ (x < t ∨ t + 19 ≤ x)) → h5 x = h x := fun x hx => (oh5 x (by omega)).trans (hfr x hx)
          refine V.aload_n dX6_readJune_113 rfl ?_
          refine V.getf (v := .ref (t)) okX6 3 fl_X6_25 dX6_readJune_114 (by decide) H.1 (congrArg (fun z => some (Value.ref z)) (hr)) ?_
          refine V.dup dX6_readJune_117 rfl ?_
          refine V.getf okX8 5 fl_X6_110 dX6_readJune_118 (by decide) HT1.1 rfl ?_
          refine V.iconst (v := 1) dX6_readJune_121 (by decide) ?_
          refine V.iadd dX6_readJune_122 ?_
          refine V.putfH okX8 5 fl_X6_110 dX6_readJune_123 (by decide) rfl HT1.1 (rfl) (rfl) (Nat.le_of_ble_eq_true rfl) (fun h6 eh6 oh6 => ?_)
          have HT1 := isR.setI C8_ok HT1 5 _ (fun _ _ => rfl) eh6 oh6
          have H := C6_kept H (oh6 _ (by omega)) (oh6 _ (by omega))
          have K := K.kept C7_ok (fun b hb1 hb2 => oh6 b (by have hb3 : b < _ := hb2; simp only [C7] at hb3; omega))
          have HT2 := HT2.kept C2_ok (fun b hb1 hb2 => oh6 b (by have hb3 : b < _ := hb2; simp only [C2] at hb3; omega))
          have HT3 := HT3.kept C2_ok (fun b hb1 hb2 => oh6 b (by have hb3 : b < _ := hb2; simp only [C2] at hb3; omega))
          have HT4 := HT4.kept (fun b hb1 hb2 => oh6 b (by omega))
          have hb := (oh6 _ (by omega)).trans hb
          have hfr : ∀ x : Nat, ((x < a ∨ a + 23 ≤ x) ∧ (x < t ∨ t + 19 ≤ x)) → h6 x = h x := fun x hx => (oh6 x (by omega)).trans (hfr x hx)
          have HP : isP _ a t tp n b (setT S2 (tJuneSet S2.2.1.1 (nat (findP S1)) S2.1.2.2.2, S2.2.1.2)) := ⟨_, H, hr, e0, e1, e4, e5, e6, ⟨_, K, kr, k1, k2, k3, k4, k5⟩, ⟨HT1, HT2, HT3, HT4⟩, hb⟩
          obtain ⟨S3, hS3⟩ : ∃ x, x = setT S2 (tJuneSet S2.2.1.1 (nat (findP S1)) S2.1.2.2.2, S2.2.1.2) := ⟨_, rfl⟩
          rw [← hS3] at HP
          have okS3 : okS n S3 := by rw [hS3]; exact okS2
          obtain ⟨s, H, hr, e0, e1, e4, e5, e6, HK, HT, hb⟩ := id HP
          obtain ⟨sk, K, kr, k1, k2, k3, k4, k5⟩ := id HK
          obtain ⟨HT1, HT2, HT3, HT4⟩ := id HT
          refine V.aload_n dX6_readJune_126 rfl ?_
          refine V.getf okX6 2 fl_X6_18 dX6_readJune_127 (by decide) H.1 rfl ?_
          refine V.cV0 (ci := 7) yoX7_step ml_X6_54 im_X7_step se_X7_step dX6_readJune_130 rfl K.1 (Nat.le_of_ble_eq_true rfl) (by omega) ⟨Nat.le_refl _, Nat.le_refl _⟩ rfl (Nat.le_of_ble_eq_true rfl) (step_V (q := (S3).1) (b := b) (n := n) (by omega) ⟨_, K, kr, k1, k2, k3, k4, k5⟩ hb hn okS3.1 hbb (by omega)) ?_
          rintro _ h7 ⟨rfl, HK, ooh7⟩
          have oh7 : ∀ x : Nat, ¬ x = a + 1 → h7 x = h6 x := fun x hx => ooh7 x (by omega)
          obtain ⟨sk, K, kr, k1, k2, k3, k4, k5⟩ := id HK
          have H := C6_kept H (oh7 _ (by omega)) (oh7 _ (by omega))
          have HT1 := HT1.kept C8_ok (fun b hb1 hb2 => oh7 b (by have hb3 : b < _ := hb2; simp only [C8] at hb3; omega))
          have HT2 := HT2.kept C2_ok (fun b hb1 hb2 => oh7 b (by have hb3 : b < _ := hb2; simp only [C2] at hb3; omega))
          have HT3 := HT3.kept C2_ok (fun b hb1 hb2 => oh7 b (by have hb3 : b < _ := hb2; simp only [C2] at hb3; omega))
          have HT4 := HT4.kept (fun b hb1 hb2 => oh7 b (by omega))
          have hb := (oh7 _ (by omega)).trans hb
          have hfr : ∀ x : Nat, ((x < a ∨ a + 23 ≤ x) ∧ (x < t ∨ t + 19 ≤ x)) → h7 x = h x := fun x hx => (oh7 x (by omega)).trans (hfr x hx)
          have HP : isP _ a t tp n b (stepP b n S3) := ⟨_, H, hr, e0, e1, e4, e5, e6, ⟨_, K, kr, k1, k2, k3, k4, k5⟩, ⟨HT1, HT2, HT3, HT4⟩, hb⟩
          refine V.iconst (v := 1) dX6_readJune_133 (by decide) ?_
          refine V.zret .boolean dX6_readJune_134 rfl (rfl) ?_
          have hE : rJune b n S = (true, stepP b n S3) := by unfold rJune; rw [if_pos q9, ← hS1, bindP_k q29.1, rJune1, ← hS2, bindP_k q63.1, rJune2, if_neg (by rw [q83]; decide), ← hS3]
          exact ⟨by rw [hE]; rfl, by rw [hE]; exact HP, hfr⟩
        · skip
          have q83 := bI_t c83
          refine V.aload_n dX6_readJune_86 rfl ?_
          refine V.iconst (v := 3) dX6_readJune_87 (by decide) ?_
          refine V.cV1 (ci := 6) yoX6_fails ml_X6_60 im_X6_fails se_X6_fails dX6_readJune_88 rfl H.1 (Nat.le_of_ble_eq_true rfl) (by omega) ⟨Nat.le_refl _, Nat.le_refl _⟩ rfl (Nat.le_of_ble_eq_true rfl) (fails_V (S := S2) (k := 3) (by omega) HP hs) ?_
          rintro _ h8 ⟨rfl, HP, ooh8⟩
          have oh8 : ∀ x : Nat, ¬ ((a ≤ x ∧ x < a + 23) ∨ (t ≤ x ∧ x < t + 19)) → h8 x = h4 x := fun x hx => ooh8 x (by omega)
          obtain ⟨s, H, hr, e0, e1, e4, e5, e6, HK, HT, hb⟩ := id HP
          obtain ⟨sk, K, kr, k1, k2, k3, k4, k5⟩ := id HK
          obtain ⟨HT1, HT2, HT3, HT4⟩ := id HT
          have hfr : ∀ x : Nat, ((x < a ∨ a + 23 ≤ x) ∧ (x < t ∨ t + 19 ≤ x)) → h8 x = h x := fun x hx => (oh8 x (by omega)).trans (hfr x hx)
          refine V.zret .boolean dX6_readJune_91 rfl (rfl) ?_
          have hE : rJune b n S = (false, failP 3 S2) := by unfold rJune; rw [if_pos q9, ← hS1, bindP_k q29.1, rJune1, ← hS2, bindP_k q63.1, rJune2, if_pos q83]
          exact ⟨by rw [hE]; rfl, by rw [hE]; exact HP, hfr⟩
      · skip
        have q63 := bI_f c63
        refine V.iconst (v := 0) dX6_readJune_66 (by decide) ?_
        refine V.zret .boolean dX6_readJune_67 rfl (rfl) ?_
        have hE : rJune b n S = numP 0 59 S2 := by unfold rJune; rw [if_pos q9, ← hS1, bindP_k q29.1, rJune1, ← hS2, bindP_f q63]
        exact ⟨by rw [hE, q63]; rfl, by rw [hE]; exact HP, hfr⟩
    · skip
      have q29 := bI_f c29
      refine V.iconst (v := 0) dX6_readJune_32 (by decide) ?_
      refine V.zret .boolean dX6_readJune_33 rfl (rfl) ?_
      have hE : rJune b n S = persP S1 := by unfold rJune; rw [if_pos q9, ← hS1, bindP_f q29]
      exact ⟨by rw [hE, q29]; rfl, by rw [hE]; exact HP, hfr⟩
  · skip
    have q9 : ¬ S.2.1.1.1 5 < 12 := c9
    refine V.aload_n dX6_readJune_12 rfl ?_
    refine V.iconst (v := 2) dX6_readJune_13 (by decide) ?_
    refine V.cV1 (ci := 6) yoX6_fails ml_X6_60 im_X6_fails se_X6_fails dX6_readJune_14 rfl H.1 (Nat.le_of_ble_eq_true rfl) (by omega) ⟨Nat.le_refl _, Nat.le_refl _⟩ rfl (Nat.le_of_ble_eq_true rfl) (fails_V (S := S) (k := 2) (by omega) HP hs) ?_
    rintro _ h9 ⟨rfl, HP, ooh9⟩
    have oh9 : ∀ x : Nat, ¬ ((a ≤ x ∧ x < a + 23) ∨ (t ≤ x ∧ x < t + 19)) → h9 x = h x := fun x hx => ooh9 x (by omega)
    obtain ⟨s, H, hr, e0, e1, e4, e5, e6, HK, HT, hb⟩ := id HP
    obtain ⟨sk, K, kr, k1, k2, k3, k4, k5⟩ := id HK
    obtain ⟨HT1, HT2, HT3, HT4⟩ := id HT
    have hfr : ∀ x : Nat, ((x < a ∨ a + 23 ≤ x) ∧ (x < t ∨ t + 19 ≤ x)) → h9 x = h x := fun x hx => (oh9 x (by omega)).trans (hfr x hx)
    refine V.zret .boolean dX6_readJune_17 rfl (rfl) ?_
    have hE : rJune b n S = (false, failP 2 S) := by unfold rJune; rw [if_neg q9]
    exact ⟨by rw [hE]; rfl, by rw [hE]; exact HP, hfr⟩
