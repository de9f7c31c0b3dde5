/-! The model: light, blow, cut, go, undo, keep, back walked -/
def aLitB (T : Tx) (c : St) (x y : Int32) : Bool := isManB (T.1.1 0) x && isEndB y && cCan c (nat x) y
def aLitC (T : Tx) (c : St) (x y : Int32) : St := if aLitB T c x y = true then cLight c (nat x) y else c
def aLitU (T : Tx) (c u : St) (x y : Int32) : St := if aLitB T c x y = true then uPut u (nat (u.1 0)) (nat x) c else u
def aBlwB (T : Tx) (c : St) (x y : Int32) : Bool := isManB (T.1.1 0) x && isEndB y && cLitB c (nat x) y
def aBlwC (T : Tx) (c : St) (x y : Int32) : St := if aBlwB T c x y = true then cBlow c (nat x) y else c
def aBlwU (T : Tx) (c u : St) (x y : Int32) : St := if aBlwB T c x y = true then uPut u (nat (u.1 0)) (nat x) c else u
def aCutN (T : Tx) (x y w : Int32) : Bool := isManB (T.1.1 0) x && isEndB y && decide (¬ w < 1) && decide (¬ 60 < w)
def aCutB (T : Tx) (c : St) (x y w : Int32) : Bool := aCutN T x y w && decide (¬ cLeft c (nat x) < w)
def aCutC (T : Tx) (c : St) (x y w : Int32) : St := if aCutB T c x y w = true then cShorten c (nat x) y w else c
def aCutU (T : Tx) (c u : St) (x y w : Int32) : St := if aCutB T c x y w = true then uPut u (nat (u.1 0)) (nat x) c else u
def aCutV (T : Tx) (c : St) (x y w : Int32) : Int32 := if aCutN T x y w = true then (if cLeft c (nat x) < w then -2 else cLeft (cShorten c (nat x) y w) (nat x)) else -1
def aGoB (c : St) (x : Int32) : Bool := decide (¬ x < 0) && decide (¬ 200 < x) && decide (¬ 9800 < c.1 7 + x)
def aGoC (T : Tx) (c : St) (x : Int32) : St := if aGoB c x = true then hoursS T (kW 1) 63 true (nat x) c else c
def aGoU (c u : St) (x : Int32) : St := if aGoB c x = true ∧ 0 < x then uZero u else u
def aGoV (T : Tx) (c : St) (x : Int32) : Int32 := if aGoB c x = true then (aGoC T c x).1 7 else -1
def aUndC (u c : St) : St := if u.1 0 = 0 then c else uPopC u (nat (u.1 0) - 1) (nat (u.2.1 1 (nat (u.1 0) - 1))) c
def aUndU (u : St) : St := if u.1 0 = 0 then u else uPopS u (nat (u.1 0) - 1)
def aUndV (u : St) : Int32 := if u.1 0 = 0 then -1 else nI (nat (u.1 0) - 1)
def aBackC (c g : St) (hi : Bool) : St := if hi = true then cCopy c g else c
def aBackU (u : St) (hi : Bool) : St := if hi = true then uZero u else u
def aBackV (g : St) (hi : Bool) : Int32 := if hi = true then g.1 7 else -1
theorem isEnd_of {y : Int32} (h : isEndB y = true) : ∃ e, y = nI e ∧ e < 2 := by
  unfold isEndB at h
  rw [Bool.or_eq_true, decide_eq_true_eq, decide_eq_true_eq] at h
  rcases h with rfl | rfl
  · exact ⟨0, rfl, by decide⟩
  · exact ⟨1, rfl, by decide⟩
theorem yesEnd {T : Tx} {f : Nat → Nat → Int32} {x y : Int32} (hT : relT T f) (h : ¬ bI (isManB (f 3 0) x && isEndB y) = 0) : isManB (T.1.1 0) x = true ∧ isEndB y = true ∧ ∃ p e, x = nI p ∧ y = nI e ∧ p < nat (T.1.1 0) ∧ p < 6 ∧ e < 2 ∧ nat (nI p) = p := by
  have h1 := bI_t h
  rw [Bool.and_eq_true] at h1
  obtain ⟨p, rfl, h3, h4⟩ := isMan_of hT h1.1
  obtain ⟨e, rfl, h5⟩ := isEnd_of h1.2
  exact ⟨by rw [hT.1.2.1]; exact h1.1, h1.2, p, e, rfl, rfl, h3, h4, h5, nI_clamp (by omega)⟩
theorem noEnd {T : Tx} {f : Nat → Nat → Int32} {x y : Int32} (hT : relT T f) (h : bI (isManB (f 3 0) x && isEndB y) = 0) : (isManB (T.1.1 0) x && isEndB y) = false := by
  rw [hT.1.2.1]
  exact bI_f h
theorem Rm.cp {T : Tx} {s c g : St} {r : Nat} (h : Rm T s r c) : Rm T s r (cCopy g c) := by
  obtain ⟨h1, ⟨a0, a1, a2, a3, a4, a5, a6⟩, h3⟩ := h
  exact ⟨h1, ⟨a0, a1, a2, a3, a4, fun p hp => a5 p hp, fun p hp => a6 p hp⟩, fun p hp => h3 p hp⟩
theorem cShort_out {c : St} {p : Nat} {e b : Int32} : (cShorten c p e b).1 = c.1 ∧ (cShorten c p e b).2.2 = c.2.2 ∧ ∀ k i, ¬ (3 ≤ k ∧ k ≤ 5 ∧ i = p) → (cShorten c p e b).2.1 k i = c.2.1 k i := by
  have h0 : (cShort0 c p e b).1 = c.1 ∧ (cShort0 c p e b).2.2 = c.2.2 ∧ ∀ k i, ¬ (3 ≤ k ∧ k ≤ 5 ∧ i = p) → (cShort0 c p e b).2.1 k i = c.2.1 k i := by
    unfold cShort0
    split
    · exact ⟨rfl, rfl, fun k i h => uA_miss (by omega)⟩
    · exact ⟨rfl, rfl, fun k i h => uA_miss (by omega)⟩
  unfold cShorten cOut0
  split
  · exact ⟨h0.1, h0.2.1, fun k i h => (uA_miss (by omega)).trans (h0.2.2 k i h)⟩
  · exact h0
theorem MU.zn {T : Tx} {c g u s : St} {hi : Bool} (h : MU T c g u hi s) : (u.1 0 = nI (nat (u.1 0)) ∧ nat (u.1 0) = nat (u.1 0)) ∧ nat (u.1 0) ≤ 20 ∧ s.1 45 = nI (nat (u.1 0)) :=
  ⟨⟨h.2.2.2.2.2.1.1, rfl⟩, by have := h.2.2.2.2.2.1.2; omega, h.2.2.2.2.2.2.1.trans h.2.2.2.2.2.1.1⟩
set_option maxRecDepth 100000 in
set_option maxHeartbeats 2000000 in
theorem light_M {d n0 a : Nat} {κ : Kd} {h0 : Hp} (hd : 5 ≤ d) {T : Tx} {s c g u : St} {hi : Bool} (hM : MU T c g u hi s) {x y : Int32} : MV MX12_light (d, 0, 0, n0, κ) a h0 s 0 [some (.ref a), some (.int (x)), some (.int (y))] [] (fun v s' => v = some (.int (bI (aLitB T c x y))) ∧ MU T (aLitC T c x y) g (aLitU T c u x y) hi s' ∧ frD s s') := by
  have hqu := hM.1
  have hR := hM.2.2.1
  obtain ⟨hz1, hz2, hz3⟩ := hM.zn
  refine MV.aload_n dX12_light_0 rfl ?_
  refine MV.iconst (v := 0) dX12_light_1 (by decide) ?_
  refine MV.putf 0 fl_X12_148 dX12_light_2 (by decide) rfl (rfl) (rfl) C12_s0 ?_
  refine MV.aload_n dX12_light_5 rfl ?_
  refine MV.iload_n dX12_light_6 rfl ?_
  refine MV.iload_n dX12_light_7 rfl ?_
  refine MV.cV2 yoX12_isEnd ml_X12_444 im_X12_isEnd se_X12_isEnd dX12_light_8 rfl (Nat.le_of_ble_eq_true rfl) (by omega) rfl (Nat.le_of_ble_eq_true rfl) (isEnd_M (by omega)) (MV.rdK ?_)
  refine MV.if_eq 37 dX12_light_11 (by decide) (fun c11 => ?_) (fun c11 => ?_)
  · skip
    have hA : aLitB T c x y = false := by unfold aLitB; rw [noEnd hR.1 c11, Bool.false_and]
    refine MV.iconst (v := 0) dX12_light_37 (by decide) ?_
    refine MV.zret .boolean dX12_light_38 rfl (rfl) ?_
    exact ⟨by rw [hA]; rfl, by unfold aLitC aLitU; rw [hA]; exact hM.z, frD.z⟩
  · skip
    obtain ⟨hman, hend, p, e, rfl, rfl, hp, hp6, he, hnp⟩ := yesEnd hR.1 c11
    have eL := (hR.2.1.left hR.1 hp).1
    obtain ⟨b1, b2, b3, b4⟩ := hR.2.1.r0 hp6
    obtain ⟨L, hL, hL2⟩ := hR.2.2.left hp
    have hcb := canB (e := nI e) hL hL2
    refine MV.aload_n dX12_light_14 rfl ?_
    refine MV.getf 42 fl_X12_93 dX12_light_15 (by decide) rfl ?_
    refine MV.iload_n dX12_light_18 rfl ?_
    refine MV.ald C12_in42 dX12_light_19 (rfl) (by omega) (by decide) ?_
    refine MV.eqi (c.2.1 5 p) b3.symm ?_
    refine MV.iload_n dX12_light_20 rfl ?_
    refine MV.ishr dX12_light_21 ?_
    refine MV.iconst (v := 1) dX12_light_22 (by decide) ?_
    refine MV.iand dX12_light_23 ?_
    refine MV.iconst (v := 1) dX12_light_24 (by decide) ?_
    refine MV.icmp_eq 37 dX12_light_25 (by decide) (fun c25 => ?_) (fun c25 => ?_)
    · skip
      have hA : aLitB T c (nI p) (nI e) = false := by
        unfold aLitB
        rw [hnp, hcb, decide_eq_false (fun z => (and1_iff _).mp c25 z), Bool.false_and, Bool.and_false]
      refine MV.iconst (v := 0) dX12_light_37 (by decide) ?_
      refine MV.zret .boolean dX12_light_38 rfl (rfl) ?_
      exact ⟨by rw [hA]; rfl, by unfold aLitC aLitU; rw [hA]; exact hM.z, frD.z⟩
    · skip
      have q25 : (c.2.1 5 p >>> (nI e &&& 31)) &&& 1 = 0 := Classical.byContradiction fun z => c25 ((and1_iff _).mpr z)
      refine MV.aload_n dX12_light_28 rfl ?_
      refine MV.iconst (v := nI 0) dX12_light_29 (by decide) ?_
      refine MV.iload_n dX12_light_30 rfl ?_
      refine MV.cV2 yoX12_leftOf ml_X12_353 im_X12_leftOf se_X12_leftOf dX12_light_31 rfl (Nat.le_of_ble_eq_true rfl) (by omega) rfl (Nat.le_of_ble_eq_true rfl) (mLeft_M (r := 0) (by omega) (by decide) hp6) (MV.rdK ?_)
      refine MV.if_ne 39 dX12_light_34 (by decide) (fun c34 => ?_) (fun c34 => ?_)
      · skip
        have hcan : cCan c p (nI e) = true := by
          have q34 : ¬ cLeft c p = 0 := fun z => c34 (eL.trans z)
          rw [hcb, decide_eq_true q25, decide_eq_true q34]; rfl
        have hA : aLitB T c (nI p) (nI e) = true := by unfold aLitB; rw [hnp, hman, hend, hcan]; rfl
        refine MV.aload_n dX12_light_39 rfl ?_
        refine MV.cV0 yoX12_keepNow ml_X12_447 im_X12_keepNow se_X12_keepNow dX12_light_40 rfl (Nat.le_of_ble_eq_true rfl) (by omega) rfl (Nat.le_of_ble_eq_true rfl) (keepNow_M (z := nat (u.1 0)) (by omega) hz3 hz2) ?_
        rintro _ s1 ⟨rfl, k45, kf, k0, kr, kj⟩
        have hR1 : Rm T s1 0 c := (kr 0 (by decide)).R hR.z kf
        refine MV.aload_n dX12_light_43 rfl ?_
        refine MV.iconst (v := nI 0) dX12_light_44 (by decide) ?_
        refine MV.iload_n dX12_light_45 rfl ?_
        refine MV.iload_n dX12_light_46 rfl ?_
        refine MV.cV3 yoX12_lights ml_X12_400 im_X12_lights se_X12_lights dX12_light_47 rfl (Nat.le_of_ble_eq_true rfl) (by omega) rfl (Nat.le_of_ble_eq_true rfl) (lights_M (T := T) (c := c) (r := 0) (p := p) (e := e) (by omega) (by decide) hR1 hp he) ?_
        rintro _ s2 ⟨b, rfl, hb, hR2, f2⟩
        rw [hcan] at hb
        subst hb
        rw [if_pos rfl] at hR2
        refine MV.zret .boolean dX12_light_50 rfl (bI_n _) ?_
        exact ⟨by rw [hA], by unfold aLitC aLitU; rw [if_pos hA, if_pos hA, hnp]; exact MU.push hM.z hz1 hp hp6 k45 kf k0 kr kj f2 hR2 rfl rfl (fun k i h => uA_miss (by omega)), frD.z.tr (frD.K (kf.tr (frK.R f2)))⟩
      · skip
        have hA : aLitB T c (nI p) (nI e) = false := by
          have q34 : cLeft c p = 0 := eL.symm.trans c34
          have d34 : decide (¬ cLeft c p = 0) = false := decide_eq_false (fun z => z q34)
          unfold aLitB
          rw [hnp, hcb, d34, Bool.and_false, Bool.and_false]
        refine MV.iconst (v := 0) dX12_light_37 (by decide) ?_
        refine MV.zret .boolean dX12_light_38 rfl (rfl) ?_
        exact ⟨by rw [hA]; rfl, by unfold aLitC aLitU; rw [hA]; exact hM.z, frD.z⟩
set_option maxRecDepth 100000 in
set_option maxHeartbeats 2000000 in
theorem blow_M {d n0 a : Nat} {κ : Kd} {h0 : Hp} (hd : 5 ≤ d) {T : Tx} {s c g u : St} {hi : Bool} (hM : MU T c g u hi s) {x y : Int32} : MV MX12_blow (d, 0, 0, n0, κ) a h0 s 0 [some (.ref a), some (.int (x)), some (.int (y))] [] (fun v s' => v = some (.int (bI (aBlwB T c x y))) ∧ MU T (aBlwC T c x y) g (aBlwU T c u x y) hi s' ∧ frD s s') := by
  have hqu := hM.1
  have hR := hM.2.2.1
  obtain ⟨hz1, hz2, hz3⟩ := hM.zn
  refine MV.aload_n dX12_blow_0 rfl ?_
  refine MV.iconst (v := 0) dX12_blow_1 (by decide) ?_
  refine MV.putf 0 fl_X12_148 dX12_blow_2 (by decide) rfl (rfl) (rfl) C12_s0 ?_
  refine MV.aload_n dX12_blow_5 rfl ?_
  refine MV.iload_n dX12_blow_6 rfl ?_
  refine MV.iload_n dX12_blow_7 rfl ?_
  refine MV.cV2 yoX12_isEnd ml_X12_444 im_X12_isEnd se_X12_isEnd dX12_blow_8 rfl (Nat.le_of_ble_eq_true rfl) (by omega) rfl (Nat.le_of_ble_eq_true rfl) (isEnd_M (by omega)) (MV.rdK ?_)
  refine MV.if_eq 27 dX12_blow_11 (by decide) (fun c11 => ?_) (fun c11 => ?_)
  · skip
    have hA : aBlwB T c x y = false := by unfold aBlwB; rw [noEnd hR.1 c11, Bool.false_and]
    refine MV.iconst (v := 0) dX12_blow_27 (by decide) ?_
    refine MV.zret .boolean dX12_blow_28 rfl (rfl) ?_
    exact ⟨by rw [hA]; rfl, by unfold aBlwC aBlwU; rw [hA]; exact hM.z, frD.z⟩
  · skip
    obtain ⟨hman, hend, p, e, rfl, rfl, hp, hp6, he, hnp⟩ := yesEnd hR.1 c11
    obtain ⟨b1, b2, b3, b4⟩ := hR.2.1.r0 hp6
    refine MV.aload_n dX12_blow_14 rfl ?_
    refine MV.getf 42 fl_X12_93 dX12_blow_15 (by decide) rfl ?_
    refine MV.iload_n dX12_blow_18 rfl ?_
    refine MV.ald C12_in42 dX12_blow_19 (rfl) (by omega) (by decide) ?_
    refine MV.eqi (c.2.1 5 p) b3.symm ?_
    refine MV.iload_n dX12_blow_20 rfl ?_
    refine MV.ishr dX12_blow_21 ?_
    refine MV.iconst (v := 1) dX12_blow_22 (by decide) ?_
    refine MV.iand dX12_blow_23 ?_
    refine MV.if_ne 29 dX12_blow_24 (by decide) (fun c24 => ?_) (fun c24 => ?_)
    · skip
      have hcan : cLitB c p (nI e) = true := by
        unfold cLitB litB
        rw [decide_eq_true c24]
      have hA : aBlwB T c (nI p) (nI e) = true := by unfold aBlwB; rw [hnp, hman, hend, hcan]; rfl
      refine MV.aload_n dX12_blow_29 rfl ?_
      refine MV.cV0 yoX12_keepNow ml_X12_447 im_X12_keepNow se_X12_keepNow dX12_blow_30 rfl (Nat.le_of_ble_eq_true rfl) (by omega) rfl (Nat.le_of_ble_eq_true rfl) (keepNow_M (z := nat (u.1 0)) (by omega) hz3 hz2) ?_
      rintro _ s1 ⟨rfl, k45, kf, k0, kr, kj⟩
      have hR1 : Rm T s1 0 c := (kr 0 (by decide)).R hR.z kf
      refine MV.aload_n dX12_blow_33 rfl ?_
      refine MV.iconst (v := nI 0) dX12_blow_34 (by decide) ?_
      refine MV.iload_n dX12_blow_35 rfl ?_
      refine MV.iload_n dX12_blow_36 rfl ?_
      refine MV.cV3 yoX12_blows ml_X12_403 im_X12_blows se_X12_blows dX12_blow_37 rfl (Nat.le_of_ble_eq_true rfl) (by omega) rfl (Nat.le_of_ble_eq_true rfl) (blows_M (T := T) (c := c) (r := 0) (p := p) (e := e) (by omega) (by decide) hR1 hp he) ?_
      rintro _ s2 ⟨b, rfl, hb, hR2, f2⟩
      rw [hcan] at hb
      subst hb
      rw [if_pos rfl] at hR2
      refine MV.zret .boolean dX12_blow_40 rfl (bI_n _) ?_
      exact ⟨by rw [hA], by unfold aBlwC aBlwU; rw [if_pos hA, if_pos hA, hnp]; exact MU.push hM.z hz1 hp hp6 k45 kf k0 kr kj f2 hR2 rfl rfl (fun k i h => uA_miss (by omega)), frD.z.tr (frD.K (kf.tr (frK.R f2)))⟩
    · skip
      have hA : aBlwB T c (nI p) (nI e) = false := by
        unfold aBlwB cLitB litB
        rw [hnp, decide_eq_false (fun z => z c24), Bool.and_false]
      refine MV.iconst (v := 0) dX12_blow_27 (by decide) ?_
      refine MV.zret .boolean dX12_blow_28 rfl (rfl) ?_
      exact ⟨by rw [hA]; rfl, by unfold aBlwC aBlwU; rw [hA]; exact hM.z, frD.z⟩
set_option maxRecDepth 100000 in
set_option maxHeartbeats 2000000 in
theorem cut_M {d n0 a : Nat} {κ : Kd} {h0 : Hp} (hd : 5 ≤ d) {T : Tx} {s c g u : St} {hi : Bool} (hM : MU T c g u hi s) {x y w : Int32} : MV MX12_cut (d, 0, 0, n0, κ) a h0 s 0 [some (.ref a), some (.int (x)), some (.int (y)), some (.int (w))] [] (fun v s' => v = some (.int (aCutV T c x y w)) ∧ MU T (aCutC T c x y w) g (aCutU T c u x y w) hi s' ∧ frD s s') := by
  have hqu := hM.1
  have hR := hM.2.2.1
  obtain ⟨hz1, hz2, hz3⟩ := hM.zn
  refine MV.aload_n dX12_cut_0 rfl ?_
  refine MV.iconst (v := 0) dX12_cut_1 (by decide) ?_
  refine MV.putf 0 fl_X12_148 dX12_cut_2 (by decide) rfl (rfl) (rfl) C12_s0 ?_
  refine MV.aload_n dX12_cut_5 rfl ?_
  refine MV.iload_n dX12_cut_6 rfl ?_
  refine MV.iload_n dX12_cut_7 rfl ?_
  refine MV.cV2 yoX12_isEnd ml_X12_444 im_X12_isEnd se_X12_isEnd dX12_cut_8 rfl (Nat.le_of_ble_eq_true rfl) (by omega) rfl (Nat.le_of_ble_eq_true rfl) (isEnd_M (by omega)) (MV.rdK ?_)
  refine MV.if_eq 25 dX12_cut_11 (by decide) (fun c11 => ?_) (fun c11 => ?_)
  · skip
    have hN : aCutN T x y w = false := by
      unfold aCutN
      rw [noEnd hR.1 c11, Bool.false_and, Bool.false_and]
    have hA : aCutB T c x y w = false := by unfold aCutB; rw [hN, Bool.false_and]
    have hV : aCutV T c x y w = -1 := by rw [aCutV, hN]; rfl
    refine MV.iconst (v := (-1)) dX12_cut_25 (by decide) ?_
    refine MV.iret dX12_cut_26 rfl ?_
    exact ⟨by rw [hV], by unfold aCutC aCutU; rw [hA]; exact hM.z, frD.z⟩
  · skip
    obtain ⟨hman, hend, p, e, rfl, rfl, hp, hp6, he, hnp⟩ := yesEnd hR.1 c11
    have eL := (hR.2.1.left hR.1 hp).1
    refine MV.iload_n dX12_cut_14 rfl ?_
    refine MV.iconst (v := 1) dX12_cut_15 (by decide) ?_
    refine MV.icmp_lt 25 dX12_cut_16 (by decide) (fun c16 => ?_) (fun c16 => ?_)
    · skip
      have hN : aCutN T (nI p) (nI e) w = false := by
        unfold aCutN
        rw [decide_eq_false (fun z => z c16), Bool.and_false, Bool.false_and]
      have hA : aCutB T c (nI p) (nI e) w = false := by unfold aCutB; rw [hN, Bool.false_and]
      have hV : aCutV T c (nI p) (nI e) w = -1 := by rw [aCutV, hN]; rfl
      refine MV.iconst (v := (-1)) dX12_cut_25 (by decide) ?_
      refine MV.iret dX12_cut_26 rfl ?_
      exact ⟨by rw [hV], by unfold aCutC aCutU; rw [hA]; exact hM.z, frD.z⟩
    · skip
      refine MV.iload_n dX12_cut_19 rfl ?_
      refine MV.bipush (v := 60) dX12_cut_20 (by decide) ?_
      refine MV.icmp_le 27 dX12_cut_22 (by decide) (fun c22 => ?_) (fun c22 => ?_)
      · skip
        have q22 : ¬ 60 < w := Int32.not_lt.mpr c22
        have hN : aCutN T (nI p) (nI e) w = true := by
          unfold aCutN
          rw [hman, hend, decide_eq_true c16, decide_eq_true q22]; rfl
        obtain ⟨b, hb31, rfl⟩ := nI_of (fun z => c16 (Int32.lt_trans z (by decide)))
        refine MV.iload_n dX12_cut_27 rfl ?_
        refine MV.aload_n dX12_cut_28 rfl ?_
        refine MV.iconst (v := nI 0) dX12_cut_29 (by decide) ?_
        refine MV.iload_n dX12_cut_30 rfl ?_
        refine MV.cV2 yoX12_leftOf ml_X12_353 im_X12_leftOf se_X12_leftOf dX12_cut_31 rfl (Nat.le_of_ble_eq_true rfl) (by omega) rfl (Nat.le_of_ble_eq_true rfl) (mLeft_M (r := 0) (by omega) (by decide) hp6) (MV.rdK ?_)
        refine MV.icmp_le 40 dX12_cut_34 (by decide) (fun c34 => ?_) (fun c34 => ?_)
        · skip
          have q34 : ¬ cLeft c p < nI b := by rw [← eL]; exact Int32.not_lt.mpr c34
          have hA : aCutB T c (nI p) (nI e) (nI b) = true := by unfold aCutB; rw [hN, hnp, decide_eq_true q34]; rfl
          have hV : aCutV T c (nI p) (nI e) (nI b) = cLeft (cShorten c p (nI e) (nI b)) p := by rw [aCutV, if_pos hN, hnp, if_neg q34]
          refine MV.aload_n dX12_cut_40 rfl ?_
          refine MV.cV0 yoX12_keepNow ml_X12_447 im_X12_keepNow se_X12_keepNow dX12_cut_41 rfl (Nat.le_of_ble_eq_true rfl) (by omega) rfl (Nat.le_of_ble_eq_true rfl) (keepNow_M (z := nat (u.1 0)) (by omega) hz3 hz2) ?_
          rintro _ s1 ⟨rfl, k45, kf, k0, kr, kj⟩
          have hR1 : Rm T s1 0 c := (kr 0 (by decide)).R hR.z kf
          refine MV.aload_n dX12_cut_44 rfl ?_
          refine MV.iconst (v := nI 0) dX12_cut_45 (by decide) ?_
          refine MV.iload_n dX12_cut_46 rfl ?_
          refine MV.iload_n dX12_cut_47 rfl ?_
          refine MV.iload_n dX12_cut_48 rfl ?_
          refine MV.cV4 yoX12_cuts ml_X12_392 im_X12_cuts se_X12_cuts dX12_cut_49 rfl (Nat.le_of_ble_eq_true rfl) (by omega) rfl (Nat.le_of_ble_eq_true rfl) (cuts_M (T := T) (c := c) (r := 0) (p := p) (e := nI e) (b := b) (by omega) (by decide) hR1 hp hb31 rfl) ?_
          rintro _ s2 ⟨rfl, hR2, f2⟩
          refine MV.aload_n dX12_cut_52 rfl ?_
          refine MV.iconst (v := nI 0) dX12_cut_53 (by decide) ?_
          refine MV.iload_n dX12_cut_54 rfl ?_
          refine MV.cV2 yoX12_leftOf ml_X12_353 im_X12_leftOf se_X12_leftOf dX12_cut_55 rfl (Nat.le_of_ble_eq_true rfl) (by omega) rfl (Nat.le_of_ble_eq_true rfl) (mLeft_M (r := 0) (by omega) (by decide) hp6) (MV.rdK ?_)
          refine MV.iret dX12_cut_58 rfl ?_
          have hE : mLeft s2 0 p = cLeft (cShorten c p (nI e) (nI b)) p := (hR2.2.1.left hR2.1 hp).1
          exact ⟨by rw [hV, ← hE], by unfold aCutC aCutU; rw [if_pos hA, if_pos hA, hnp]; exact MU.push hM.z hz1 hp hp6 k45 kf k0 kr kj f2 hR2 cShort_out.1 cShort_out.2.1 cShort_out.2.2, frD.z.tr (frD.K (kf.tr (frK.R f2)))⟩
        · skip
          have q34 : cLeft c p < nI b := by rw [← eL]; exact Int32.not_le.mp c34
          have hA : aCutB T c (nI p) (nI e) (nI b) = false := by unfold aCutB; rw [hN, hnp, decide_eq_false (fun z => z q34)]; rfl
          have hV : aCutV T c (nI p) (nI e) (nI b) = -2 := by rw [aCutV, if_pos hN, hnp, if_pos q34]
          refine MV.bipush (v := (-2)) dX12_cut_37 (by decide) ?_
          refine MV.iret dX12_cut_39 rfl ?_
          exact ⟨by rw [hV], by unfold aCutC aCutU; rw [hA]; exact hM.z, frD.z⟩
      · skip
        have hN : aCutN T (nI p) (nI e) w = false := by
          unfold aCutN
          have d22 : decide (¬ 60 < w) = false := decide_eq_false (fun z => z (Int32.not_le.mp c22))
          rw [d22, Bool.and_false]
        have hA : aCutB T c (nI p) (nI e) w = false := by unfold aCutB; rw [hN, Bool.false_and]
        have hV : aCutV T c (nI p) (nI e) w = -1 := by rw [aCutV, hN]; rfl
        refine MV.iconst (v := (-1)) dX12_cut_25 (by decide) ?_
        refine MV.iret dX12_cut_26 rfl ?_
        exact ⟨by rw [hV], by unfold aCutC aCutU; rw [hA]; exact hM.z, frD.z⟩
set_option maxRecDepth 100000 in
set_option maxHeartbeats 1000000 in
theorem goLoop_M {d n0 a : Nat} {κ : Kd} {h0 : Hp} (hd : 7 ≤ d) {T : Tx} {s c g : St} {hi : Bool} {n : Nat} (hn : n ≤ 10000) (hw : wfT T) : ∀ (s0 u' : St), s0.1 46 = 0 → Rm T s0 0 c → frD s s0 → (∀ s2, Rm T s2 0 (hoursS T (kW 1) 63 true n c) → frR 0 s0 s2 → MU T (hoursS T (kW 1) 63 true n c) g u' hi s2) → MV MX12_go (d, 0, 0, n0, κ) a h0 s0 43 [some (.ref a), some (.int (nI n)), some (.int (nI 0))] [] (fun v s' => v = some (.int ((hoursS T (kW 1) 63 true n c).1 7)) ∧ MU T (hoursS T (kW 1) 63 true n c) g u' hi s' ∧ frD s s') := by
  intro s0 u' hq46 hR0 fd0 hend
  suffices hL : ∀ (j i : Nat) (s2 e : St), i + j = n → Rm T s2 0 e → frR 0 s0 s2 → hoursS T (kW 1) 63 true j e = hoursS T (kW 1) 63 true n c → MV MX12_go (d, 0, 0, n0, κ) a h0 s2 43 [some (.ref a), some (.int (nI n)), some (.int (nI i))] [] (fun v s' => v = some (.int ((hoursS T (kW 1) 63 true n c).1 7)) ∧ MU T (hoursS T (kW 1) 63 true n c) g u' hi s' ∧ frD s s') from
    hL n 0 s0 c (by omega) hR0 frR.rf rfl
  intro j
  induction j with
  | zero =>
    intro i s2 e hij hR2 f2 hv
    refine MV.iload_n dX12_go_43 rfl ?_
    refine MV.iload_n dX12_go_44 rfl ?_
    refine MV.icmp_ge 60 dX12_go_45 (by decide) (fun _ => ?_) (fun z => absurd (nI_le (by omega) (by omega)) z)
    refine MV.aload_n dX12_go_60 rfl ?_
    refine MV.getf 36 fl_X12_75 dX12_go_61 (by decide) rfl ?_
    refine MV.iconst (v := nI 0) dX12_go_64 (by decide) ?_
    refine MV.ald C12_in36 dX12_go_65 (rfl) (by omega) (by decide) ?_
    refine MV.eqi ((hoursS T (kW 1) 63 true n c).1 7) (by rw [← hv]; exact hR2.2.1.2.1.symm) ?_
    refine MV.iret dX12_go_66 rfl ?_
    exact ⟨rfl, hend s2 (by rw [← hv]; exact hR2) f2, (fd0.tr (frD.K (frK.R f2)))⟩
  | succ j ih =>
    intro i s2 e hij hR2 f2 hv
    refine MV.iload_n dX12_go_43 rfl ?_
    refine MV.iload_n dX12_go_44 rfl ?_
    refine MV.icmp_ge 60 dX12_go_45 (by decide) (fun z => absurd z (nI_ge (by omega) (by omega))) (fun _ => ?_)
    refine MV.aload_n dX12_go_48 rfl ?_
    refine MV.iconst (v := nI 0) dX12_go_49 (by decide) ?_
    refine MV.iconst (v := (bI true)) dX12_go_50 (by decide) ?_
    refine MV.cV2 yoX12_passes ml_X12_421 im_X12_passes se_X12_passes dX12_go_51 rfl (Nat.le_of_ble_eq_true rfl) (by omega) rfl (Nat.le_of_ble_eq_true rfl) (passes_M (T := T) (k := kW 1) (c := e) (byN := true) (by omega) (by decide) hw hR2 (relK1 (by rw [f2.1 46 (by decide)]; exact hq46)) rfl) ?_
    rintro _ s3 ⟨rfl, hR3, f3⟩
    refine MV.iinc (v := 1) dX12_go_54 rfl (by decide) (by decide) rfl ?_
    refine MV.goto 43 dX12_go_57 (by decide) ?_
    refine MV.weak [some (.ref a), some (.int (nI n)), some (.int (nI (i + 1)))] (by simp [leL, sto1, sto2, k2c, nI_1]) ?_
    exact ih (i + 1) _ _ (by omega) hR3 (f2.tr f3) hv
set_option maxRecDepth 100000 in
set_option maxHeartbeats 2000000 in
theorem go_M {d n0 a : Nat} {κ : Kd} {h0 : Hp} (hd : 8 ≤ d) {T : Tx} {s c g u : St} {hi : Bool} (hM : MU T c g u hi s) {x : Int32} (hw : wfT T) : MV MX12_go (d, 0, 0, n0, κ) a h0 s 0 [some (.ref a), some (.int (x)), none] [] (fun v s' => v = some (.int (aGoV T c x)) ∧ MU T (aGoC T c x) g (aGoU c u x) hi s' ∧ frD s s') := by
  have hqu := hM.1
  have hR := hM.2.2.1
  obtain ⟨hz1, hz2, hz3⟩ := hM.zn
  refine MV.aload_n dX12_go_0 rfl ?_
  refine MV.iconst (v := 0) dX12_go_1 (by decide) ?_
  refine MV.putf 0 fl_X12_148 dX12_go_2 (by decide) rfl (rfl) (rfl) C12_s0 ?_
  refine MV.iload_n dX12_go_5 rfl ?_
  refine MV.if_lt 30 dX12_go_6 (by decide) (fun c6 => ?_) (fun c6 => ?_)
  · skip
    have hA : aGoB c x = false := by unfold aGoB; rw [decide_eq_false (fun z => z c6), Bool.false_and, Bool.false_and]
    refine MV.iconst (v := (-1)) dX12_go_30 (by decide) ?_
    refine MV.iret dX12_go_31 rfl ?_
    exact ⟨by rw [aGoV, hA]; rfl, by unfold aGoC aGoU; rw [hA]; exact hM.z, frD.z⟩
  · skip
    refine MV.iload_n dX12_go_9 rfl ?_
    refine MV.sipush (v := 200) dX12_go_10 (by decide) ?_
    refine MV.icmp_gt 30 dX12_go_13 (by decide) (fun c13 => ?_) (fun c13 => ?_)
    · skip
      have hA : aGoB c x = false := by 
        have d13 : decide (¬ 200 < x) = false := decide_eq_false (fun z => z c13)
        unfold aGoB; rw [d13, Bool.and_false, Bool.false_and]
      refine MV.iconst (v := (-1)) dX12_go_30 (by decide) ?_
      refine MV.iret dX12_go_31 rfl ?_
      exact ⟨by rw [aGoV, hA]; rfl, by unfold aGoC aGoU; rw [hA]; exact hM.z, frD.z⟩
    · skip
      refine MV.aload_n dX12_go_16 rfl ?_
      refine MV.getf 36 fl_X12_75 dX12_go_17 (by decide) rfl ?_
      refine MV.iconst (v := nI 0) dX12_go_20 (by decide) ?_
      refine MV.ald C12_in36 dX12_go_21 (rfl) (by omega) (by decide) ?_
      refine MV.eqi (c.1 7) hR.2.1.2.1.symm ?_
      refine MV.iload_n dX12_go_22 rfl ?_
      refine MV.iadd dX12_go_23 ?_
      refine MV.sipush (v := 9800) dX12_go_24 (by decide) ?_
      refine MV.icmp_le 32 dX12_go_27 (by decide) (fun c27 => ?_) (fun c27 => ?_)
      · skip
        have q27 : ¬ 9800 < c.1 7 + x := Int32.not_lt.mpr c27
        have hA : aGoB c x = true := by unfold aGoB; rw [decide_eq_true c6, decide_eq_true (show ¬ 200 < x from c13), decide_eq_true q27]; rfl
        obtain ⟨n, hn31, rfl⟩ := nI_of c6
        have hn200 : n ≤ 200 := Nat.not_lt.mp fun z => c13 (nI_lt (a := 200) z hn31)
        have hnn : nat (nI n) = n := nI_clamp hn31
        have hC : aGoC T c (nI n) = hoursS T (kW 1) 63 true n c := by rw [aGoC, if_pos hA, hnn]
        have hV : aGoV T c (nI n) = (hoursS T (kW 1) 63 true n c).1 7 := by rw [aGoV, if_pos hA, hC]
        refine MV.iload_n dX12_go_32 rfl ?_
        refine MV.if_le 41 dX12_go_33 (by decide) (fun c33 => ?_) (fun c33 => ?_)
        · skip
          have hU : aGoU c u (nI n) = u := by rw [aGoU, if_neg (fun z => absurd z.2 (Int32.not_lt.mpr c33))]
          refine MV.iconst (v := nI 0) dX12_go_41 (by decide) ?_
          refine MV.istore_n dX12_go_42 (by decide) rfl ?_
          rw [hV, hC, hU]
          exact goLoop_M (by omega) (by omega) hw (mI s 0 0) u hqu.1 hR.z frD.z (fun s2 hR2 f2 => by
            have hn0 : n = 0 := Nat.eq_zero_of_not_pos fun z => nI_nle z (by omega) c33
            subst hn0
            obtain ⟨a1, a2, a3, a4, a5, a6, a7, a8⟩ := hM.z (x := 0)
            exact ⟨(frK.R f2).q a1, (f2.1 47 (by decide)).trans a2, hR2, (f2.1 44 (by decide)).trans a4, fun q => (rmE.fr f2 (by decide)).R (a5 q) (frK.R f2), a6, (f2.1 45 (by decide)).trans a7, fun j hj => ⟨(a8 j hj).1, (rmE.fr f2 (by omega)).R (a8 j hj).2 (frK.R f2)⟩⟩)
        · skip
          have hU : aGoU c u (nI n) = uZero u := by rw [aGoU, if_pos ⟨hA, Int32.not_le.mp c33⟩]
          skip
          refine MV.aload_n dX12_go_36 rfl ?_
          refine MV.iconst (v := 0) dX12_go_37 (by decide) ?_
          refine MV.putf 45 fl_X12_314 dX12_go_38 (by decide) rfl (rfl) (rfl) C12_s45 ?_
          refine MV.iconst (v := nI 0) dX12_go_41 (by decide) ?_
          refine MV.istore_n dX12_go_42 (by decide) rfl ?_
          rw [hV, hC, hU]
          exact goLoop_M (by omega) (by omega) hw (mI (mI s 0 0) 45 0) (uZero u) hqu.1 (show Rm T (mI s 0 0) 0 c from hR.z) (frD.z.tr (frD.K frK.u)) (fun s2 hR2 f2 => by
            obtain ⟨a1, a2, a3, a4, a5, a6, a7, a8⟩ := hM.z (x := 0)
            have fk : frK (mI s 0 0) s2 := frK.u.tr (frK.R f2)
            exact ⟨fk.q a1, (fk.1 47 (by decide) (by decide)).trans a2, hR2, (fk.1 44 (by decide) (by decide)).trans a4, fun q => (rmE.fr (s := mI (mI s 0 0) 45 0) (q := 2) f2 (by decide)).R (s := mI (mI s 0 0) 45 0) (a5 q) (frK.R f2), okN.of (n := 0) rfl (by decide) (by decide), (f2.1 45 (by decide)), fun j hj => absurd hj (by rw [show (uZero u).1 0 = nI 0 from rfl, show nat (nI 0) = 0 from nI_clamp (by decide)]; omega)⟩)
      · skip
        have hA : aGoB c x = false := by 
          have d27 : decide (¬ 9800 < c.1 7 + x) = false := decide_eq_false (fun z => z (Int32.not_le.mp c27))
          unfold aGoB; rw [d27, Bool.and_false]
        refine MV.iconst (v := (-1)) dX12_go_30 (by decide) ?_
        refine MV.iret dX12_go_31 rfl ?_
        exact ⟨by rw [aGoV, hA]; rfl, by unfold aGoC aGoU; rw [hA]; exact hM.z, frD.z⟩
theorem uLv_congrA {u v : St} : ∀ (k z : Nat) (c : St), (∀ r j, v.2.1 r j = u.2.1 r j) → uLv v k z c = uLv u k z c := by
  intro k
  induction k with
  | zero => intro z c _; rfl
  | succ k ih =>
    intro z c h
    unfold uLv uPopC
    rw [h 1 (z - 1), h 2 (z - 1), h 3 (z - 1), h 4 (z - 1)]
    exact ih (z - 1) _ h
set_option maxRecDepth 100000 in
set_option maxHeartbeats 2000000 in
theorem undo_M {d n0 a : Nat} {κ : Kd} {h0 : Hp} (hd : 3 ≤ d) {T : Tx} {s c g u : St} {hi : Bool} (hM : MU T c g u hi s) : MV MX12_undo (d, 0, 0, n0, κ) a h0 s 0 [some (.ref a)] [] (fun v s' => v = some (.int (aUndV u)) ∧ MU T (aUndC u c) g (aUndU u) hi s' ∧ frD s s') := by
  have hqu := hM.1
  have hR := hM.2.2.1
  obtain ⟨hz1, hz2, hz3⟩ := hM.zn
  refine MV.aload_n dX12_undo_0 rfl ?_
  refine MV.iconst (v := 0) dX12_undo_1 (by decide) ?_
  refine MV.putf 0 fl_X12_148 dX12_undo_2 (by decide) rfl (rfl) (rfl) C12_s0 ?_
  refine MV.aload_n dX12_undo_5 rfl ?_
  refine MV.getf 45 fl_X12_314 dX12_undo_6 (by decide) rfl ?_
  refine MV.if_ne 14 dX12_undo_9 (by decide) (fun c9 => ?_) (fun c9 => ?_)
  · skip
    have hu0 : ¬ u.1 0 = 0 := fun z => c9 (hM.2.2.2.2.2.2.1.trans z)
    obtain ⟨z, hzz⟩ : ∃ z, nat (u.1 0) = z + 1 := ⟨nat (u.1 0) - 1, by
      have : nat (u.1 0) ≠ 0 := fun q => hu0 (by rw [hz1.1, q]; rfl)
      omega⟩
    rw [hzz] at hz2 hz3
    refine MV.aload_n dX12_undo_14 rfl ?_
    refine MV.dup dX12_undo_15 rfl ?_
    refine MV.getf 45 fl_X12_314 dX12_undo_16 (by decide) rfl ?_
    refine MV.iconst (v := 1) dX12_undo_19 (by decide) ?_
    refine MV.isub dX12_undo_20 ?_
    refine MV.eqi (nI z) (by rw [show (mI s 0 0).1 45 = nI (z + 1) from hz3]; exact nI_pred z) ?_
    refine MV.putf 45 fl_X12_314 dX12_undo_21 (by decide) rfl (rfl) (rfl) C12_s45 ?_
    refine MV.aload_n dX12_undo_24 rfl ?_
    refine MV.iconst (v := nI 0) dX12_undo_25 (by decide) ?_
    refine MV.iconst (v := nI 3) dX12_undo_26 (by decide) ?_
    refine MV.aload_n dX12_undo_27 rfl ?_
    refine MV.getf 45 fl_X12_314 dX12_undo_28 (by decide) rfl ?_
    refine MV.iadd dX12_undo_31 ?_
    refine MV.eqi (nI (3 + z)) (nI_add 3 z) ?_
    refine MV.cV2 yoX12_copies ml_X12_441 im_X12_copies se_X12_copies dX12_undo_32 rfl (Nat.le_of_ble_eq_true rfl) (by omega) rfl (Nat.le_of_ble_eq_true rfl) (copies_M (r := 0) (q := 3 + z) (by omega) (by decide) (by omega) (by omega)) ?_
    rintro _ s2 ⟨rfl, f2, h1, h2⟩
    refine MV.aload_n dX12_undo_35 rfl ?_
    refine MV.getf 45 fl_X12_314 dX12_undo_36 (by decide) rfl ?_
    refine MV.iret dX12_undo_39 rfl ?_
    have e0 : rmE (mI (mI s 0 0) 45 (nI z)) (3 + z) s2 0 := ⟨h1, h2⟩
    obtain ⟨a1, a2, a3, a4, a5, a6, a7, a8⟩ := hM.z (x := 0)
    have fk : frK (mI s 0 0) s2 := frK.u.tr (frK.R f2)
    have b := a8 z (by omega)
    rw [hzz, show z + 1 - z = 0 + 1 by omega] at b
    have hlv : ∀ k, uLv u (k + 1) (z + 1) c = uLv (uPopS u z) k z (uPopC u z (nat (u.2.1 1 z)) c) := by
      intro k
      rw [uLv]
      simp only [Nat.add_sub_cancel]
      by_cases hk : k ≤ z
      · exact (uLv_congr (u := u) (v := uPopS u z) k z _ hk (fun _ _ _ => rfl)).symm
      · exact (uLv_congrA (u := u) (v := uPopS u z) k z _ (fun _ _ => rfl)).symm
    refine ⟨by rw [aUndV, if_neg hu0, hzz, f2.1 45 (by decide)]; rfl, ?_, frD.z.tr (frD.K fk)⟩
    unfold aUndC aUndU
    rw [if_neg hu0, if_neg hu0, hzz]
    simp only [Nat.add_sub_cancel]
    refine ⟨fk.q a1, (fk.1 47 (by decide) (by decide)).trans a2, ?_, (fk.1 44 (by decide) (by decide)).trans a4, fun q => (rmE.fr (s := mI (mI s 0 0) 45 (nI z)) f2 (by decide)).R (s := mI (mI s 0 0) 45 (nI z)) (a5 q) (frK.R f2), okN.of (n := z) rfl (by omega) (by decide), (f2.1 45 (by decide)), fun j hj => ?_⟩
    · have := b.2
      rw [hlv 0] at this
      exact e0.R (s := mI (mI s 0 0) 45 (nI z)) this (frK.R f2)
    · have hn : nat ((uPopS u z).1 0) = z := nI_clamp (by omega)
      rw [hn] at hj ⊢
      have b2 := a8 j (by omega)
      rw [hzz, show z + 1 - j = (z - j) + 1 by omega, hlv] at b2
      exact ⟨b2.1, (rmE.fr (s := mI (mI s 0 0) 45 (nI z)) (q := 3 + j) f2 (by omega)).R (s := mI (mI s 0 0) 45 (nI z)) b2.2 (frK.R f2)⟩
  · skip
    have hu0 : u.1 0 = 0 := hM.2.2.2.2.2.2.1.symm.trans c9
    refine MV.iconst (v := (-1)) dX12_undo_12 (by decide) ?_
    refine MV.iret dX12_undo_13 rfl ?_
    exact ⟨by rw [aUndV, if_pos hu0], by unfold aUndC aUndU; rw [if_pos hu0, if_pos hu0]; exact hM.z, frD.z⟩
set_option maxRecDepth 100000 in
set_option maxHeartbeats 2000000 in
theorem keep_M {d n0 a : Nat} {κ : Kd} {h0 : Hp} (hd : 3 ≤ d) {T : Tx} {s c g u : St} {hi : Bool} (hM : MU T c g u hi s) : MV MX12_keep (d, 0, 0, n0, κ) a h0 s 0 [some (.ref a)] [] (fun v s' => v = some (.int (c.1 7)) ∧ MU T c (cCopy g c) u true s' ∧ frD s s') := by
  have hqu := hM.1
  have hR := hM.2.2.1
  obtain ⟨hz1, hz2, hz3⟩ := hM.zn
  refine MV.aload_n dX12_keep_0 rfl ?_
  refine MV.iconst (v := 0) dX12_keep_1 (by decide) ?_
  refine MV.putf 0 fl_X12_148 dX12_keep_2 (by decide) rfl (rfl) (rfl) C12_s0 ?_
  refine MV.aload_n dX12_keep_5 rfl ?_
  refine MV.iconst (v := nI 2) dX12_keep_6 (by decide) ?_
  refine MV.iconst (v := nI 0) dX12_keep_7 (by decide) ?_
  refine MV.cV2 yoX12_copies ml_X12_441 im_X12_copies se_X12_copies dX12_keep_8 rfl (Nat.le_of_ble_eq_true rfl) (by omega) rfl (Nat.le_of_ble_eq_true rfl) (copies_M (r := 2) (q := 0) (by omega) (by decide) (by decide) (by decide)) ?_
  rintro _ s2 ⟨rfl, f2, h1, h2⟩
  refine MV.aload_n dX12_keep_11 rfl ?_
  refine MV.iconst (v := 1) dX12_keep_12 (by decide) ?_
  refine MV.putf 44 fl_X12_310 dX12_keep_13 (by decide) rfl (rfl) (rfl) C12_s44 ?_
  refine MV.aload_n dX12_keep_16 rfl ?_
  refine MV.getf 36 fl_X12_75 dX12_keep_17 (by decide) rfl ?_
  refine MV.iconst (v := nI 0) dX12_keep_20 (by decide) ?_
  refine MV.ald C12_in36 dX12_keep_21 (rfl) (by omega) (by decide) ?_
  refine MV.eqi (c.1 7) ((rmE.fr (s := mI s 0 0) (q := 0) f2 (by decide)).R (s := mI s 0 0) hR (frK.R f2)).2.1.2.1.symm ?_
  refine MV.iret dX12_keep_22 rfl ?_
  have e0 : rmE (mI s 0 0) 0 s2 2 := ⟨h1, h2⟩
  obtain ⟨a1, a2, a3, a4, a5, a6, a7, a8⟩ := hM.z (x := 0)
  exact ⟨rfl, ⟨(frK.R f2).q a1, (f2.1 47 (by decide)).trans a2, (rmE.fr f2 (by decide)).R a3 (frK.R f2), rfl, fun _ => (e0.R a3 (frK.R f2)).cp, a6, (f2.1 45 (by decide)).trans a7, fun j hj => ⟨(a8 j hj).1, (rmE.fr f2 (by omega)).R (a8 j hj).2 (frK.R f2)⟩⟩, (frD.z.tr (frD.K (frK.R f2))).tr frD.i⟩
set_option maxRecDepth 100000 in
set_option maxHeartbeats 2000000 in
theorem back_M {d n0 a : Nat} {κ : Kd} {h0 : Hp} (hd : 3 ≤ d) {T : Tx} {s c g u : St} {hi : Bool} (hM : MU T c g u hi s) : MV MX12_back (d, 0, 0, n0, κ) a h0 s 0 [some (.ref a)] [] (fun v s' => v = some (.int (aBackV g hi)) ∧ MU T (aBackC c g hi) g (aBackU u hi) hi s' ∧ frD s s') := by
  have hqu := hM.1
  have hR := hM.2.2.1
  obtain ⟨hz1, hz2, hz3⟩ := hM.zn
  refine MV.aload_n dX12_back_0 rfl ?_
  refine MV.iconst (v := 0) dX12_back_1 (by decide) ?_
  refine MV.putf 0 fl_X12_148 dX12_back_2 (by decide) rfl (rfl) (rfl) C12_s0 ?_
  refine MV.aload_n dX12_back_5 rfl ?_
  refine MV.getf 44 fl_X12_310 dX12_back_6 (by decide) rfl ?_
  refine MV.if_ne 14 dX12_back_9 (by decide) (fun c9 => ?_) (fun c9 => ?_)
  · skip
    have hhi : hi = true := by
      cases hi with
      | true => rfl
      | false => exact absurd hM.2.2.2.1 c9
    refine MV.aload_n dX12_back_14 rfl ?_
    refine MV.iconst (v := nI 0) dX12_back_15 (by decide) ?_
    refine MV.iconst (v := nI 2) dX12_back_16 (by decide) ?_
    refine MV.cV2 yoX12_copies ml_X12_441 im_X12_copies se_X12_copies dX12_back_17 rfl (Nat.le_of_ble_eq_true rfl) (by omega) rfl (Nat.le_of_ble_eq_true rfl) (copies_M (r := 0) (q := 2) (by omega) (by decide) (by decide) (by decide)) ?_
    rintro _ s2 ⟨rfl, f2, h1, h2⟩
    have e0 : rmE (mI s 0 0) 2 s2 0 := ⟨h1, h2⟩
    have hRg : Rm T s2 0 g := e0.R (hM.2.2.2.2.1 hhi) (frK.R f2)
    refine MV.aload_n dX12_back_20 rfl ?_
    refine MV.iconst (v := 0) dX12_back_21 (by decide) ?_
    refine MV.putf 45 fl_X12_314 dX12_back_22 (by decide) rfl (rfl) (rfl) C12_s45 ?_
    refine MV.aload_n dX12_back_25 rfl ?_
    refine MV.getf 36 fl_X12_75 dX12_back_26 (by decide) rfl ?_
    refine MV.iconst (v := nI 0) dX12_back_29 (by decide) ?_
    refine MV.ald C12_in36 dX12_back_30 (rfl) (by omega) (by decide) ?_
    refine MV.eqi (g.1 7) hRg.2.1.2.1.symm ?_
    refine MV.iret dX12_back_31 rfl ?_
    obtain ⟨a1, a2, a3, a4, a5, a6, a7, a8⟩ := hM.z (x := 0)
    have fk : frK (mI s 0 0) (mI s2 45 0) := (frK.R f2).tr frK.u
    refine ⟨by rw [aBackV, if_pos hhi], ?_, frD.z.tr (frD.K fk)⟩
    unfold aBackC aBackU
    rw [if_pos hhi, if_pos hhi]
    exact ⟨fk.q a1, (fk.1 47 (by decide) (by decide)).trans a2, hRg.cp, (fk.1 44 (by decide) (by decide)).trans a4, fun q => (rmE.fr (s := mI s 0 0) (s' := s2) (q := 2) f2 (by decide)).R (a5 q) (frK.R f2), okN.of (n := 0) rfl (by decide) (by decide), rfl, fun j hj => absurd hj (by rw [show (uZero u).1 0 = nI 0 from rfl, show nat (nI 0) = 0 from nI_clamp (by decide)]; omega)⟩
  · skip
    have hhi : hi = false := by
      cases hi with
      | false => rfl
      | true => exact absurd (hM.2.2.2.1.symm.trans c9) (by decide)
    refine MV.iconst (v := (-1)) dX12_back_12 (by decide) ?_
    refine MV.iret dX12_back_13 rfl ?_
    exact ⟨by rw [aBackV, hhi]; rfl, by unfold aBackC aBackU; rw [hhi]; rw [hhi] at hM; exact hM.z, frD.z⟩
