/-! The model: goes -/
theorem bin_cases {k : Int32} (h : isBin k = true) : k = 18 ∨ k = 19 ∨ k = 33 ∨ k = 34 ∨ k = 35 ∨ k = 36 ∨ k = 37 ∨ k = 38 ∨ k = 39 ∨ k = 40 ∨ k = 41 ∨ k = 42 := by
  unfold isBin at h
  simp only [Bool.or_eq_true, Bool.and_eq_true, decide_eq_true_eq] at h
  rcases h with (h | h) | ⟨h1, h2⟩
  · exact Or.inl h
  · exact Or.inr (Or.inl h)
  · have a1 : ¬ k.toInt < 33 := fun z => h1 (Int32.lt_iff_toInt_lt.mpr z)
    have a2 : ¬ 42 < k.toInt := fun z => h2 (Int32.lt_iff_toInt_lt.mpr z)
    have : k.toInt = 33 ∨ k.toInt = 34 ∨ k.toInt = 35 ∨ k.toInt = 36 ∨ k.toInt = 37 ∨ k.toInt = 38 ∨ k.toInt = 39 ∨ k.toInt = 40 ∨ k.toInt = 41 ∨ k.toInt = 42 := by omega
    rcases this with e | e | e | e | e | e | e | e | e | e
    · exact Or.inr (Or.inr (Or.inl (Int32.toInt_inj.mp e)))
    · exact Or.inr (Or.inr (Or.inr (Or.inl (Int32.toInt_inj.mp e))))
    · exact Or.inr (Or.inr (Or.inr (Or.inr (Or.inl (Int32.toInt_inj.mp e)))))
    · exact Or.inr (Or.inr (Or.inr (Or.inr (Or.inr (Or.inl (Int32.toInt_inj.mp e))))))
    · exact Or.inr (Or.inr (Or.inr (Or.inr (Or.inr (Or.inr (Or.inl (Int32.toInt_inj.mp e)))))))
    · exact Or.inr (Or.inr (Or.inr (Or.inr (Or.inr (Or.inr (Or.inr (Or.inl (Int32.toInt_inj.mp e))))))))
    · exact Or.inr (Or.inr (Or.inr (Or.inr (Or.inr (Or.inr (Or.inr (Or.inr (Or.inl (Int32.toInt_inj.mp e)))))))))
    · exact Or.inr (Or.inr (Or.inr (Or.inr (Or.inr (Or.inr (Or.inr (Or.inr (Or.inr (Or.inl (Int32.toInt_inj.mp e))))))))))
    · exact Or.inr (Or.inr (Or.inr (Or.inr (Or.inr (Or.inr (Or.inr (Or.inr (Or.inr (Or.inr (Or.inl (Int32.toInt_inj.mp e)))))))))))
    · exact Or.inr (Or.inr (Or.inr (Or.inr (Or.inr (Or.inr (Or.inr (Or.inr (Or.inr (Or.inr (Or.inr ((Int32.toInt_inj.mp e))))))))))))
theorem takes2 {k : Int32} (h : takesN k = 2) : isBin k = true := by
  unfold takesN at h
  split at h
  · cases h
  · split at h
    · assumption
    · cases h
theorem takes1 {k : Int32} (h : takesN k = 1) : k = 20 := by
  unfold takesN at h
  split at h
  · assumption
  · split at h <;> cases h
def wfE (ks : Nat → Int32) : Nat → Nat → Nat → Prop
  | 0, _, d => d = 1
  | n + 1, k, d => takesN (ks k) ≤ d ∧ wfE ks n (k + 1) (d + 1 - takesN (ks k))
/-- a KNOT: kind and number there, sort and value here -/
def knR (k num so v : Int32) : Prop := (k = -3 ∧ so = 0 ∧ v = num ∧ okN num 10000) ∨ (∃ j : Nat, j < 7 ∧ k = nI (11 + j) ∧ so = 1 ∧ v = nI j) ∨ (¬ takesN k = 0 ∧ so = 2 ∧ v = sgV k)
theorem wPut_in {v : Int64} {r : List Int64} (h : r.length < 64) : wPut v r = if inR v = true then some (v :: r) else none := by
  unfold wPut inR
  rw [if_neg (by omega)]
  by_cases h1 : 1000000000000 < v
  · rw [if_pos h1, if_neg (by simp [h1])]
  · rw [if_neg h1]
    by_cases h2 : v < -1000000000000
    · rw [if_pos h2, if_neg (by simp [h2])]
    · rw [if_neg h2, if_pos (by simp [h1, h2, -Int64.not_lt])]
theorem wStep_leaf {own : Int32 → Int32 → Int64} {kd nm : Int32} {st : List Int64} (h : takesN kd = 0) : wStep own kd nm st = wPut (own kd nm) st := by
  unfold wStep wPick
  rw [if_pos h]
theorem wStep_not {own : Int32 → Int32 → Int64} {kd nm : Int32} {y : Int64} {r : List Int64} (h : takesN kd = 1) : wStep own kd nm (y :: r) = wPut (joinL kd y 0) r := by
  unfold wStep wPick
  rw [if_neg (by rw [h]; decide), if_pos h]
theorem wStep_bin {own : Int32 → Int32 → Int64} {kd nm : Int32} {y x : Int64} {r : List Int64} (h : takesN kd = 2) : wStep own kd nm (y :: x :: r) = wPut (joinL kd x y) r := by
  unfold wStep wPick
  rw [if_neg (by rw [h]; decide), if_neg (by rw [h]; decide)]
theorem inR_err {v : Int64} (h : inR v = true) : ¬ v = ERR := by
  intro q
  subst q
  exact absurd h (by decide)
set_option maxRecDepth 100000 in
theorem worksBin_M {d n0 a : Nat} {κ : Kd} {h0 : Hp} (hd : 2 ≤ d) {s : St} {l : Nat} {x y : Int64} {kd : Int32} (hk : isBin kd = true) (hl : l + 2 ≤ 64) (hm : s.1 35 = nI (l + 2)) (hx : s.2.2.1 34 l = x) (hy : s.2.2.1 34 (l + 1) = y) : MV MX12_works (d, 0, 0, n0, κ) a h0 s 0 [some (.ref a), some (.int (sgV kd)), none, none, none, none, none, none] [] (fun w s' => w = some (.int (bI (inR (joinL kd x y)))) ∧ scW s s' ∧ (inR (joinL kd x y) = true → s'.1 35 = nI (l + 1) ∧ s'.2.2.1 34 = vp_updL (s.2.2.1 34) l (joinL kd x y))) := by
  rcases bin_cases hk with rfl | rfl | rfl | rfl | rfl | rfl | rfl | rfl | rfl | rfl | rfl | rfl
  · rw [show sgV 18 = 262 by decide]; exact works_or_M hd hl hm hx hy
  · rw [show sgV 19 = 261 by decide]; exact works_and_M hd hl hm hx hy
  · rw [show sgV 33 = 60 by decide]; exact works_lt_M hd hl hm hx hy
  · rw [show sgV 34 = 256 by decide]; exact works_le_M hd hl hm hx hy
  · rw [show sgV 35 = 61 by decide]; exact works_eq_M hd hl hm hx hy
  · rw [show sgV 36 = 257 by decide]; exact works_ne_M hd hl hm hx hy
  · rw [show sgV 37 = 258 by decide]; exact works_ge_M hd hl hm hx hy
  · rw [show sgV 38 = 62 by decide]; exact works_gt_M hd hl hm hx hy
  · rw [show sgV 39 = 43 by decide]; exact works_add_M hd hl hm hx hy
  · rw [show sgV 40 = 45 by decide]; exact works_sub_M hd hl hm hx hy
  · rw [show sgV 41 = 42 by decide]; exact works_mul_M hd hl hm hx hy
  · rw [show sgV 42 = 47 by decide]; exact works_div_M hd hl hm hx hy
set_option maxRecDepth 100000 in
set_option maxHeartbeats 4000000 in
theorem goes_M {d n0 a : Nat} {κ : Kd} {h0 : Hp} (hd : 3 ≤ d) {s : St} {q f t : Nat} {R : Int64} {own : Int32 → Int32 → Int64} {ks ns : Nat → Int32} (hq : q < 6) (hf : s.2.1 16 q = nI f) (ht : s.2.1 17 q = nI t) (hft : f ≤ t) (ht6 : t ≤ 64)
    (hkn : ∀ k, f ≤ k → k < t → knR (ks k) (ns k) (s.2.1 18 k) (s.2.1 19 k)) (hwf : wfE ks (t - f) f 0) (hnm : ∀ j, j < 7 → ∀ num, s.2.2.1 33 j = own (nI (11 + j)) num) (h3 : ∀ num, own (-3) num = num.toInt64) (hin : ∀ k, f ≤ k → k < t → takesN (ks k) = 0 → inR (own (ks k) (ns k)) = true) (hR : wRun own ks ns (t - f) f [] = R) : MV MX12_goes (d, 0, 0, n0, κ) a h0 s 0 [some (.ref a), some (.int (nI q)), none] [] (fun w s' => ∃ b : Bool, w = some (.int (bI b)) ∧ scW s s' ∧ b = decide (¬ R = ERR) ∧ (b = true → s'.2.2.1 34 0 = R)) := by
  refine MV.aload_n dX12_goes_0 rfl ?_
  refine MV.iconst (v := 0) dX12_goes_1 (by decide) ?_
  refine MV.putf 35 fl_X12_317 dX12_goes_2 (by decide) rfl (rfl) (rfl) C12_s35 ?_
  refine MV.aload_n dX12_goes_5 rfl ?_
  refine MV.getf 16 fl_X12_52 dX12_goes_6 (by decide) rfl ?_
  refine MV.iload_n dX12_goes_9 rfl ?_
  refine MV.ald C12_in16 dX12_goes_10 (rfl) (by omega) (by decide) ?_
  refine MV.istore_n dX12_goes_11 (by decide) rfl ?_
  rw [show (mI s 35 0).2.1 16 q = nI f from hf]
  suffices hL : ∀ (n k : Nat) (s2 : St) (st : List Int64), k + n = t → f ≤ k → scW s s2 → s2.1 35 = nI st.length → stk (s2.2.2.1 34) st → st.length ≤ k - f → wfE ks n k st.length → (∀ v ∈ st, inR v = true) → wRun own ks ns n k st = R → MV MX12_goes (d, 0, 0, n0, κ) a h0 s2 12 [some (.ref a), some (.int (nI q)), some (.int (nI (k)))] [] (fun w s' => ∃ b : Bool, w = some (.int (bI b)) ∧ scW s s' ∧ b = decide (¬ R = ERR) ∧ (b = true → s'.2.2.1 34 0 = R)) from
    hL (t - f) f (mI s 35 0) [] (by omega) (Nat.le_refl _) scW.p rfl stk_nil (Nat.zero_le _) hwf (fun v hv => by cases hv) hR
  intro n
  induction n with
  | zero =>
    intro k s2 st hkt hfk sc hlen hst hdep hwf2 hall hrun
    have hkt : k = t := by omega
    subst hkt
    have h1 : st.length = 1 := hwf2
    have hfin : ∃ b : Bool, some (Value.int 1) = some (.int (bI b)) ∧ scW s s2 ∧ b = decide (¬ R = ERR) ∧ (b = true → s2.2.2.1 34 0 = R) := by
      match st, h1 with
      | [v], _ =>
        have hv : v = R := hrun
        refine ⟨true, rfl, sc, ?_, fun _ => ?_⟩
        · rw [← hv]
          simp [inR_err (hall v List.mem_cons_self)]
        · rw [hst 0 (by simp), ← hv]
          rfl
    refine MV.iload_n dX12_goes_12 rfl ?_
    refine MV.aload_n dX12_goes_13 rfl ?_
    refine MV.getf 17 fl_X12_55 dX12_goes_14 (by decide) rfl ?_
    refine MV.iload_n dX12_goes_17 rfl ?_
    refine MV.ald C12_in17 dX12_goes_18 (rfl) (by omega) (by decide) ?_
    refine MV.icmp_ge 102 dX12_goes_19 (by decide) (fun _ => ?_) (fun z => absurd (by rw [sc.2.1, ht]; exact nI_le (Nat.le_refl _) (by omega)) z)
    refine MV.iconst (v := 1) dX12_goes_102 (by decide) ?_
    refine MV.zret .boolean dX12_goes_103 rfl (rfl) ?_
    exact hfin
  | succ n ih =>
    intro k s2 st hkt hfk sc hlen hst hdep hwf2 hall hrun
    have w1 : takesN (ks k) ≤ st.length ∧ wfE ks n (k + 1) (st.length + 1 - takesN (ks k)) := hwf2
    rcases hkn k hfk (by omega) with ⟨kn1, kn2, kn3, kn4⟩ | ⟨j, hj7, kn1, kn2, kn3⟩ | ⟨tk, kn2, kn3⟩
    · have tk : takesN (ks k) = 0 := by rw [kn1]; decide
      refine MV.iload_n dX12_goes_12 rfl ?_
      refine MV.aload_n dX12_goes_13 rfl ?_
      refine MV.getf 17 fl_X12_55 dX12_goes_14 (by decide) rfl ?_
      refine MV.iload_n dX12_goes_17 rfl ?_
      refine MV.ald C12_in17 dX12_goes_18 (rfl) (by omega) (by decide) ?_
      refine MV.icmp_ge 102 dX12_goes_19 (by decide) (fun z => absurd z (by rw [sc.2.1, ht]; exact nI_ge (by omega) (by omega))) (fun _ => ?_)
      refine MV.aload_n dX12_goes_22 rfl ?_
      refine MV.getf 18 fl_X12_58 dX12_goes_23 (by decide) rfl ?_
      refine MV.iload_n dX12_goes_26 rfl ?_
      refine MV.ald C12_in18 dX12_goes_27 (rfl) (by omega) (by decide) ?_
      refine MV.iconst (v := 2) dX12_goes_28 (by decide) ?_
      refine MV.icmp_ne 47 dX12_goes_29 (by decide) (fun _ => ?_) (fun z => absurd z (by rw [sc.2.1, kn2]; decide))
      refine MV.aload_n dX12_goes_47 rfl ?_
      refine MV.getf 34 fl_X12_72 dX12_goes_48 (by decide) rfl ?_
      refine MV.aload_n dX12_goes_51 rfl ?_
      refine MV.getf 35 fl_X12_317 dX12_goes_52 (by decide) rfl ?_
      refine MV.aload_n dX12_goes_55 rfl ?_
      refine MV.getf 18 fl_X12_58 dX12_goes_56 (by decide) rfl ?_
      refine MV.iload_n dX12_goes_59 rfl ?_
      refine MV.ald C12_in18 dX12_goes_60 (rfl) (by omega) (by decide) ?_
      refine MV.if_ne 74 dX12_goes_61 (by decide) (fun z => absurd (by rw [sc.2.1, kn2]) z) (fun _ => ?_)
      refine MV.aload_n dX12_goes_64 rfl ?_
      refine MV.getf 19 fl_X12_61 dX12_goes_65 (by decide) rfl ?_
      refine MV.iload_n dX12_goes_68 rfl ?_
      refine MV.ald C12_in19 dX12_goes_69 (rfl) (by omega) (by decide) ?_
      rw [show s2.2.1 19 k = ns k by rw [sc.2.1]; exact kn3]
      refine MV.i2l dX12_goes_70 ?_
      refine MV.goto 85 dX12_goes_71 (by decide) ?_
      refine MV.jst C12_in34 dX12_goes_85 (hlen) (by omega) (by decide) ?_
      refine MV.aload_n dX12_goes_86 rfl ?_
      refine MV.dup dX12_goes_87 rfl ?_
      refine MV.getf 35 fl_X12_317 dX12_goes_88 (by decide) rfl ?_
      refine MV.iconst (v := 1) dX12_goes_91 (by decide) ?_
      refine MV.iadd dX12_goes_92 ?_
      rw [show (mJ s2 34 st.length (ns k).toInt64).1 35 = nI st.length from hlen, nI_1]
      refine MV.putf 35 fl_X12_317 dX12_goes_93 (by decide) rfl (rfl) (rfl) C12_s35 ?_
      refine MV.iinc (v := 1) dX12_goes_96 rfl (by decide) (by decide) rfl ?_
      refine MV.goto 12 dX12_goes_99 (by decide) ?_
      refine MV.weak [some (.ref a), some (.int (nI q)), some (.int (nI (k + 1)))] (by simp [leL, sto1, sto2, k2c, nI_1]) ?_
      have ev : own (ks k) (ns k) = (ns k).toInt64 := by rw [kn1]; exact h3 _
      have hi := hin k (by omega) (by omega) tk
      have w2 : takesN (ks k) ≤ st.length ∧ wfE ks n (k + 1) (st.length + 1 - takesN (ks k)) := hwf2
      rw [tk] at w2
      rw [wRun, wStep_leaf tk, wPut_in (by omega), if_pos hi] at hrun
      rw [ev] at hi hrun
      exact ih (k + 1) _ ((ns k).toInt64 :: st) (by omega) (by omega) (sc.tr (scW.w.tr scW.p)) rfl (stk_push _ hst) (by simp only [List.length_cons]; omega) w2.2 (fun v hv => by
        rcases List.mem_cons.mp hv with rfl | hv
        · exact hi
        · exact hall v hv) hrun
    · have tk : takesN (ks k) = 0 := by
        rw [kn1]
        have hj : j = 0 ∨ j = 1 ∨ j = 2 ∨ j = 3 ∨ j = 4 ∨ j = 5 ∨ j = 6 := by omega
        rcases hj with rfl | rfl | rfl | rfl | rfl | rfl | rfl <;> decide
      refine MV.iload_n dX12_goes_12 rfl ?_
      refine MV.aload_n dX12_goes_13 rfl ?_
      refine MV.getf 17 fl_X12_55 dX12_goes_14 (by decide) rfl ?_
      refine MV.iload_n dX12_goes_17 rfl ?_
      refine MV.ald C12_in17 dX12_goes_18 (rfl) (by omega) (by decide) ?_
      refine MV.icmp_ge 102 dX12_goes_19 (by decide) (fun z => absurd z (by rw [sc.2.1, ht]; exact nI_ge (by omega) (by omega))) (fun _ => ?_)
      refine MV.aload_n dX12_goes_22 rfl ?_
      refine MV.getf 18 fl_X12_58 dX12_goes_23 (by decide) rfl ?_
      refine MV.iload_n dX12_goes_26 rfl ?_
      refine MV.ald C12_in18 dX12_goes_27 (rfl) (by omega) (by decide) ?_
      refine MV.iconst (v := 2) dX12_goes_28 (by decide) ?_
      refine MV.icmp_ne 47 dX12_goes_29 (by decide) (fun _ => ?_) (fun z => absurd z (by rw [sc.2.1, kn2]; decide))
      refine MV.aload_n dX12_goes_47 rfl ?_
      refine MV.getf 34 fl_X12_72 dX12_goes_48 (by decide) rfl ?_
      refine MV.aload_n dX12_goes_51 rfl ?_
      refine MV.getf 35 fl_X12_317 dX12_goes_52 (by decide) rfl ?_
      refine MV.aload_n dX12_goes_55 rfl ?_
      refine MV.getf 18 fl_X12_58 dX12_goes_56 (by decide) rfl ?_
      refine MV.iload_n dX12_goes_59 rfl ?_
      refine MV.ald C12_in18 dX12_goes_60 (rfl) (by omega) (by decide) ?_
      refine MV.if_ne 74 dX12_goes_61 (by decide) (fun _ => ?_) (fun z => absurd z (by rw [sc.2.1, kn2]; decide))
      refine MV.aload_n dX12_goes_74 rfl ?_
      refine MV.getf 33 fl_X12_68 dX12_goes_75 (by decide) rfl ?_
      refine MV.aload_n dX12_goes_78 rfl ?_
      refine MV.getf 19 fl_X12_61 dX12_goes_79 (by decide) rfl ?_
      refine MV.iload_n dX12_goes_82 rfl ?_
      refine MV.ald C12_in19 dX12_goes_83 (rfl) (by omega) (by decide) ?_
      refine MV.jld C12_in33 dX12_goes_84 (by rw [sc.2.1, kn3]) (hj7) (by decide) ?_
      refine MV.jst C12_in34 dX12_goes_85 (hlen) (by omega) (by decide) ?_
      refine MV.aload_n dX12_goes_86 rfl ?_
      refine MV.dup dX12_goes_87 rfl ?_
      refine MV.getf 35 fl_X12_317 dX12_goes_88 (by decide) rfl ?_
      refine MV.iconst (v := 1) dX12_goes_91 (by decide) ?_
      refine MV.iadd dX12_goes_92 ?_
      rw [show (mJ s2 34 st.length (s2.2.2.1 33 j)).1 35 = nI st.length from hlen, nI_1]
      refine MV.putf 35 fl_X12_317 dX12_goes_93 (by decide) rfl (rfl) (rfl) C12_s35 ?_
      refine MV.iinc (v := 1) dX12_goes_96 rfl (by decide) (by decide) rfl ?_
      refine MV.goto 12 dX12_goes_99 (by decide) ?_
      refine MV.weak [some (.ref a), some (.int (nI q)), some (.int (nI (k + 1)))] (by simp [leL, sto1, sto2, k2c, nI_1]) ?_
      have ev : own (ks k) (ns k) = (s2.2.2.1 33 j) := by rw [kn1, sc.2.2]; exact (hnm j hj7 _).symm
      have hi := hin k (by omega) (by omega) tk
      have w2 : takesN (ks k) ≤ st.length ∧ wfE ks n (k + 1) (st.length + 1 - takesN (ks k)) := hwf2
      rw [tk] at w2
      rw [wRun, wStep_leaf tk, wPut_in (by omega), if_pos hi] at hrun
      rw [ev] at hi hrun
      exact ih (k + 1) _ ((s2.2.2.1 33 j) :: st) (by omega) (by omega) (sc.tr (scW.w.tr scW.p)) rfl (stk_push _ hst) (by simp only [List.length_cons]; omega) w2.2 (fun v hv => by
        rcases List.mem_cons.mp hv with rfl | hv
        · exact hi
        · exact hall v hv) hrun
    · by_cases t1 : takesN (ks k) = 1
      · have hnot := takes1 t1
        match st, hlen, hst, hdep, hall, hrun, w1 with
        | [], _, _, _, _, _, w1 => rw [t1] at w1; exact absurd w1.1 (by decide)
        | y :: r, hlen, hst, hdep, hall, hrun, w1 =>
          obtain ⟨hstr, hy⟩ := stk_drop hst
          have hallr : ∀ v ∈ r, inR v = true := fun v hv => hall v (List.mem_cons_of_mem _ hv)
          have hdep2 : r.length + 1 ≤ k - f := hdep
          have w2 : wfE ks n (k + 1) (r.length + 1) := by have := w1.2; rw [t1] at this; exact this
          rw [wRun, wStep_not t1, hnot, wPut_in (by omega)] at hrun
          refine MV.iload_n dX12_goes_12 rfl ?_
          refine MV.aload_n dX12_goes_13 rfl ?_
          refine MV.getf 17 fl_X12_55 dX12_goes_14 (by decide) rfl ?_
          refine MV.iload_n dX12_goes_17 rfl ?_
          refine MV.ald C12_in17 dX12_goes_18 (rfl) (by omega) (by decide) ?_
          refine MV.icmp_ge 102 dX12_goes_19 (by decide) (fun z => absurd z (by rw [sc.2.1, ht]; exact nI_ge (by omega) (by omega))) (fun _ => ?_)
          refine MV.aload_n dX12_goes_22 rfl ?_
          refine MV.getf 18 fl_X12_58 dX12_goes_23 (by decide) rfl ?_
          refine MV.iload_n dX12_goes_26 rfl ?_
          refine MV.ald C12_in18 dX12_goes_27 (rfl) (by omega) (by decide) ?_
          refine MV.iconst (v := 2) dX12_goes_28 (by decide) ?_
          refine MV.icmp_ne 47 dX12_goes_29 (by decide) (fun z => absurd (by rw [sc.2.1, kn2]) z) (fun _ => ?_)
          refine MV.aload_n dX12_goes_32 rfl ?_
          refine MV.aload_n dX12_goes_33 rfl ?_
          refine MV.getf 19 fl_X12_61 dX12_goes_34 (by decide) rfl ?_
          refine MV.iload_n dX12_goes_37 rfl ?_
          refine MV.ald C12_in19 dX12_goes_38 (rfl) (by omega) (by decide) ?_
          rw [show s2.2.1 19 k = sgV (ks k) by rw [sc.2.1]; exact kn3]
          rw [hnot, show sgV 20 = 260 by decide]
          refine MV.cV1 yoX12_works ml_X12_334 im_X12_works se_X12_works dX12_goes_39 rfl (Nat.le_of_ble_eq_true rfl) (by omega) rfl (Nat.le_of_ble_eq_true rfl) (works_not_M (l := r.length) (y := y) (by omega) (by omega) (hlen.trans rfl) hy) ?_
          rintro _ s3 ⟨rfl, sc3, hok⟩
          refine MV.if_ne 96 dX12_goes_42 (by decide) (fun c42 => ?_) (fun c42 => ?_)
          · skip
            have cb := bI_t c42
            obtain ⟨g1, g2⟩ := hok cb
            refine MV.iinc (v := 1) dX12_goes_96 rfl (by decide) (by decide) rfl ?_
            refine MV.goto 12 dX12_goes_99 (by decide) ?_
            refine MV.weak [some (.ref a), some (.int (nI q)), some (.int (nI (k + 1)))] (by simp [leL, sto1, sto2, k2c, nI_1]) ?_
            exact ih (k + 1) _ (joinL 20 y 0 :: r) (by omega) (by omega) (sc.tr sc3) g1 (by rw [g2]; exact stk_push _ hstr) (by simp only [List.length_cons]; omega) w2 (fun v hv => by
              rcases List.mem_cons.mp hv with rfl | hv
              · exact cb
              · exact hallr v hv) (by rw [if_pos cb] at hrun; exact hrun)
          · skip
            have cb := bI_f c42
            refine MV.iconst (v := 0) dX12_goes_45 (by decide) ?_
            refine MV.zret .boolean dX12_goes_46 rfl (rfl) ?_
            rw [if_neg (by rw [cb]; decide)] at hrun
            refine ⟨false, rfl, sc.tr sc3, ?_, fun z => by cases z⟩
            simp only at hrun
            rw [← hrun]
            simp
      · have t2 : takesN (ks k) = 2 := by have := takesN_le (ks k); omega
        have hbin := takes2 t2
        match st, hlen, hst, hdep, hall, hrun, w1 with
        | [], _, _, _, _, _, w1 => rw [t2] at w1; exact absurd w1.1 (by decide)
        | [y], _, _, _, _, _, w1 => rw [t2] at w1; exact absurd w1.1 (show ¬ 2 ≤ 1 by decide)
        | y :: x :: r, hlen, hst, hdep, hall, hrun, w1 =>
          obtain ⟨hst1, hy⟩ := stk_drop hst
          obtain ⟨hstr, hx⟩ := stk_drop hst1
          have hallr : ∀ v ∈ r, inR v = true := fun v hv => hall v (List.mem_cons_of_mem _ (List.mem_cons_of_mem _ hv))
          have hdep2 : r.length + 2 ≤ k - f := hdep
          have w2 : wfE ks n (k + 1) (r.length + 1) := by have := w1.2; rw [t2] at this; exact this
          rw [wRun, wStep_bin t2, wPut_in (by omega)] at hrun
          refine MV.iload_n dX12_goes_12 rfl ?_
          refine MV.aload_n dX12_goes_13 rfl ?_
          refine MV.getf 17 fl_X12_55 dX12_goes_14 (by decide) rfl ?_
          refine MV.iload_n dX12_goes_17 rfl ?_
          refine MV.ald C12_in17 dX12_goes_18 (rfl) (by omega) (by decide) ?_
          refine MV.icmp_ge 102 dX12_goes_19 (by decide) (fun z => absurd z (by rw [sc.2.1, ht]; exact nI_ge (by omega) (by omega))) (fun _ => ?_)
          refine MV.aload_n dX12_goes_22 rfl ?_
          refine MV.getf 18 fl_X12_58 dX12_goes_23 (by decide) rfl ?_
          refine MV.iload_n dX12_goes_26 rfl ?_
          refine MV.ald C12_in18 dX12_goes_27 (rfl) (by omega) (by decide) ?_
          refine MV.iconst (v := 2) dX12_goes_28 (by decide) ?_
          refine MV.icmp_ne 47 dX12_goes_29 (by decide) (fun z => absurd (by rw [sc.2.1, kn2]) z) (fun _ => ?_)
          refine MV.aload_n dX12_goes_32 rfl ?_
          refine MV.aload_n dX12_goes_33 rfl ?_
          refine MV.getf 19 fl_X12_61 dX12_goes_34 (by decide) rfl ?_
          refine MV.iload_n dX12_goes_37 rfl ?_
          refine MV.ald C12_in19 dX12_goes_38 (rfl) (by omega) (by decide) ?_
          rw [show s2.2.1 19 k = sgV (ks k) by rw [sc.2.1]; exact kn3]
          refine MV.cV1 yoX12_works ml_X12_334 im_X12_works se_X12_works dX12_goes_39 rfl (Nat.le_of_ble_eq_true rfl) (by omega) rfl (Nat.le_of_ble_eq_true rfl) (worksBin_M (l := r.length) (x := x) (y := y) (by omega) hbin (by omega) (hlen.trans rfl) hx hy) ?_
          rintro _ s3 ⟨rfl, sc3, hok⟩
          refine MV.if_ne 96 dX12_goes_42 (by decide) (fun c42 => ?_) (fun c42 => ?_)
          · skip
            have cb := bI_t c42
            obtain ⟨g1, g2⟩ := hok cb
            refine MV.iinc (v := 1) dX12_goes_96 rfl (by decide) (by decide) rfl ?_
            refine MV.goto 12 dX12_goes_99 (by decide) ?_
            refine MV.weak [some (.ref a), some (.int (nI q)), some (.int (nI (k + 1)))] (by simp [leL, sto1, sto2, k2c, nI_1]) ?_
            exact ih (k + 1) _ (joinL (ks k) x y :: r) (by omega) (by omega) (sc.tr sc3) g1 (by rw [g2]; exact stk_push _ hstr) (by simp only [List.length_cons]; omega) w2 (fun v hv => by
              rcases List.mem_cons.mp hv with rfl | hv
              · exact cb
              · exact hallr v hv) (by rw [if_pos cb] at hrun; exact hrun)
          · skip
            have cb := bI_f c42
            refine MV.iconst (v := 0) dX12_goes_45 (by decide) ?_
            refine MV.zret .boolean dX12_goes_46 rfl (rfl) ?_
            rw [if_neg (by rw [cb]; decide)] at hrun
            refine ⟨false, rfl, sc.tr sc3, ?_, fun z => by cases z⟩
            simp only at hrun
            rw [← hrun]
            simp
