/-! The model text: name, sign -/
def hoF (b : Nat → Int32) (q e : Nat) : Nat → Int32
  | 0 => 0
  | k + 1 => (hoF b q e k <<< ((5 : Int32) &&& 31)) ||| (if q + k < e then b (q + k) - 97 + 1 else 0)
/-- only the fields of the TOKEN change -/
def frK2 (s s' : St) : Prop := s'.2 = s.2 ∧ ∀ j, j ≠ 23 → j ≠ 24 → j ≠ 25 → j ≠ 26 → s'.1 j = s.1 j
set_option maxRecDepth 100000 in
set_option maxHeartbeats 2000000 in
theorem name_M {d n0 a : Nat} {κ : Kd} {h0 : Hp} (hd : 1 ≤ d) {s : St} {q e : Nat} (e24 : s.1 24 = nI q) (e23 : s.1 23 = nI e) (he : e ≤ 700) (hq : q ≤ e) : MV MX12_name (d, 0, 0, n0, κ) a h0 s 0 [some (.ref a), none] [] (fun v s' => v = none ∧ s'.2 = s.2 ∧ (∀ j, j ≠ 26 → s'.1 j = s.1 j) ∧ s'.1 26 = hoF (s.2.1 1) q e 6) := by
  have hL : ∀ (k i : Nat) (s2 : St), i + k = 6 → s2.2 = s.2 → (∀ j, j ≠ 26 → s2.1 j = s.1 j) → s2.1 26 = hoF (s.2.1 1) q e i → MV MX12_name (d, 0, 0, n0, κ) a h0 s2 7 [some (.ref a), some (.int (nI i))] [] (fun v s' => v = none ∧ s'.2 = s.2 ∧ (∀ j, j ≠ 26 → s'.1 j = s.1 j) ∧ s'.1 26 = hoF (s.2.1 1) q e 6) := by
    intro k
    induction k with
    | zero =>
      intro i s2 hik h2 h1 h3
      have hi6 : i = 6 := by omega
      subst hi6
      refine MV.iload_n dX12_name_7 rfl ?_
      refine MV.bipush (v := 6) dX12_name_8 (by decide) ?_
      refine MV.icmp_ge 63 dX12_name_10 (by decide) (fun _ => ?_) (fun z => absurd (nI_le (a := 6) (b := 6) (by omega) (by omega)) z)
      refine MV.vret dX12_name_63 rfl ?_
      exact ⟨rfl, h2, h1, h3⟩
    | succ k ih =>
      intro i s2 hik h2 h1 h3
      have g23 : s2.1 23 = nI e := (h1 23 (by decide)).trans e23
      have g24 : s2.1 24 = nI q := (h1 24 (by decide)).trans e24
      refine MV.iload_n dX12_name_7 rfl ?_
      refine MV.bipush (v := 6) dX12_name_8 (by decide) ?_
      refine MV.icmp_ge 63 dX12_name_10 (by decide) (fun z => absurd z (nI_ge (a := i) (b := 6) (by omega) (by omega))) (fun _ => ?_)
      refine MV.aload_n dX12_name_13 rfl ?_
      refine MV.aload_n dX12_name_14 rfl ?_
      refine MV.getf 26 fl_X12_177 dX12_name_15 (by decide) rfl ?_
      refine MV.iconst (v := 5) dX12_name_18 (by decide) ?_
      refine MV.ishl dX12_name_19 ?_
      refine MV.aload_n dX12_name_20 rfl ?_
      refine MV.getf 24 fl_X12_164 dX12_name_21 (by decide) rfl ?_
      refine MV.iload_n dX12_name_24 rfl ?_
      refine MV.iadd dX12_name_25 ?_
      refine MV.aload_n dX12_name_26 rfl ?_
      refine MV.getf 23 fl_X12_154 dX12_name_27 (by decide) rfl ?_
      refine MV.icmp_ge 52 dX12_name_30 (by decide) (fun c30 => ?_) (fun c30 => ?_)
      · skip
        have hv : (if q + i < e then s.2.1 1 (q + i) - 97 + 1 else 0) = (0 : Int32) := if_neg (fun z => nI_ge (a := q + i) (b := e) z (by omega) (by rw [← g23, ← nI_add, ← g24]; exact c30))
        refine MV.iconst (v := 0) dX12_name_52 (by decide) ?_
        refine MV.ior dX12_name_53 ?_
        refine MV.eqi (hoF (s.2.1 1) q e (i + 1)) (by rw [h3, hoF, hv]) ?_
        refine MV.putf 26 fl_X12_177 dX12_name_54 (by decide) rfl (rfl) (rfl) C12_s26 ?_
        refine MV.iinc (v := 1) dX12_name_57 rfl (by decide) (by decide) rfl ?_
        refine MV.goto 7 dX12_name_60 (by decide) ?_
        exact MV.weak [some (.ref a), some (.int (nI (i + 1)))] (by simp [leL, sto1, sto2, k2c, nI_1]) (ih (i + 1) _ (by omega) h2 (fun j hj => (upd_ne hj).trans (h1 j hj)) rfl)
      · skip
        have h30 : q + i < e := Nat.not_le.mp fun z => c30 (by rw [g23, g24, nI_add]; exact nI_le z (by omega))
        have hv : (if q + i < e then s.2.1 1 (q + i) - 97 + 1 else 0) = s.2.1 1 (q + i) - 97 + 1 := if_pos h30
        refine MV.aload_n dX12_name_33 rfl ?_
        refine MV.getf 1 fl_X12_7 dX12_name_34 (by decide) rfl ?_
        refine MV.aload_n dX12_name_37 rfl ?_
        refine MV.getf 24 fl_X12_164 dX12_name_38 (by decide) rfl ?_
        refine MV.iload_n dX12_name_41 rfl ?_
        refine MV.iadd dX12_name_42 ?_
        refine MV.ald C12_in1 dX12_name_43 ((congrArg (· + nI i) g24).trans (nI_add q i)) (by omega) (by decide) ?_
        refine MV.eqi (s.2.1 1 (q + i)) (by rw [h2]) ?_
        refine MV.bipush (v := 97) dX12_name_44 (by decide) ?_
        refine MV.isub dX12_name_46 ?_
        refine MV.iconst (v := 1) dX12_name_47 (by decide) ?_
        refine MV.iadd dX12_name_48 ?_
        refine MV.goto 53 dX12_name_49 (by decide) ?_
        refine MV.ior dX12_name_53 ?_
        refine MV.eqi (hoF (s.2.1 1) q e (i + 1)) (by rw [h3, hoF, hv]) ?_
        refine MV.putf 26 fl_X12_177 dX12_name_54 (by decide) rfl (rfl) (rfl) C12_s26 ?_
        refine MV.iinc (v := 1) dX12_name_57 rfl (by decide) (by decide) rfl ?_
        refine MV.goto 7 dX12_name_60 (by decide) ?_
        exact MV.weak [some (.ref a), some (.int (nI (i + 1)))] (by simp [leL, sto1, sto2, k2c, nI_1]) (ih (i + 1) _ (by omega) h2 (fun j hj => (upd_ne hj).trans (h1 j hj)) rfl)
  refine MV.aload_n dX12_name_0 rfl ?_
  refine MV.iconst (v := 0) dX12_name_1 (by decide) ?_
  refine MV.putf 26 fl_X12_177 dX12_name_2 (by decide) rfl (rfl) (rfl) C12_s26 ?_
  refine MV.iconst (v := nI 0) dX12_name_5 (by decide) ?_
  refine MV.istore_n dX12_name_6 (by decide) rfl ?_
  exact hL 6 0 (mI s 26 0) (by omega) rfl (fun j hj => upd_ne hj) rfl
def ssB (c : Int32) : Bool := decide (c = 59) || decide (c = 40) || decide (c = 41) || decide (c = 43) || decide (c = 45) || decide (c = 42) || decide (c = 47) || decide (c = 60) || decide (c = 61) || decide (c = 62)
def sgvM (c d : Int32) : Int32 := if c = 60 ∧ d = 61 then 256 else if c = 60 ∧ d = 62 then 257 else if c = 62 ∧ d = 61 then 258 else c
def sgtM (c d : Int32) : Nat := if (c = 60 ∧ d = 61) ∨ (c = 60 ∧ d = 62) ∨ (c = 62 ∧ d = 61) then 2 else 1
def CSg (s s2 : St) (p : Nat) (x v : Int32) : Prop := s2.2 = s.2 ∧ (∀ j, j ≠ 23 → j ≠ 25 → j ≠ 26 → s2.1 j = s.1 j) ∧ s2.1 23 = nI (p + 1) ∧ s2.1 25 = x ∧ s2.1 26 = v
theorem CSg.up {s s2 : St} {p : Nat} {x v w : Int32} (h : CSg s s2 p x v) : CSg s (mI s2 26 w) p x w :=
  ⟨h.1, fun j a b e => (upd_ne e).trans (h.2.1 j a b e), h.2.2.1, h.2.2.2.1, rfl⟩
set_option maxRecDepth 100000 in
set_option maxHeartbeats 4000000 in
theorem sign_M {d n0 a : Nat} {κ : Kd} {h0 : Hp} (hd : 2 ≤ d) {s : St} {n p : Nat} (e22 : s.1 22 = nI n) (e23 : s.1 23 = nI p) (hn : n ≤ 700) (hp : p < n) {c : Int32} (hc : c < 256) : MV MX12_sign (d, 0, 0, n0, κ) a h0 s 0 [some (.ref a), some (.int (c))] [] (fun v s' => v = none ∧ s'.2 = s.2 ∧ (∀ j, j ≠ 23 → j ≠ 25 → j ≠ 26 → s'.1 j = s.1 j) ∧ s'.1 23 = nI (p + sgtM c (sgA (s.2.1 1) n (p + 1))) ∧ s'.1 25 = (if ssB c = true then 3 else 5) ∧ s'.1 26 = sgvM c (sgA (s.2.1 1) n (p + 1))) := by
  obtain ⟨D, hD⟩ : ∃ D, D = sgA (s.2.1 1) n (p + 1) := ⟨_, rfl⟩
  rw [← hD]
  suffices h76 : ∀ x : Int32, x = (if ssB c = true then 3 else 5) → MV MX12_sign (d, 0, 0, n0, κ) a h0 (mI s 23 (s.1 23 + 1)) 76 [some (.ref a), some (.int c)] [.int x, .ref a] (fun v s' => v = none ∧ s'.2 = s.2 ∧ (∀ j, j ≠ 23 → j ≠ 25 → j ≠ 26 → s'.1 j = s.1 j) ∧ s'.1 23 = nI (p + sgtM c D) ∧ s'.1 25 = (if ssB c = true then 3 else 5) ∧ s'.1 26 = sgvM c D) from by
    skip
    refine MV.aload_n dX12_sign_0 rfl ?_
    refine MV.dup dX12_sign_1 rfl ?_
    refine MV.getf 23 fl_X12_154 dX12_sign_2 (by decide) rfl ?_
    refine MV.iconst (v := 1) dX12_sign_5 (by decide) ?_
    refine MV.iadd dX12_sign_6 ?_
    refine MV.putf 23 fl_X12_154 dX12_sign_7 (by decide) rfl (rfl) (rfl) C12_s23 ?_
    refine MV.aload_n dX12_sign_10 rfl ?_
    refine MV.iload_n dX12_sign_11 rfl ?_
    refine MV.bipush (v := 59) dX12_sign_12 (by decide) ?_
    refine MV.icmp_eq 71 dX12_sign_14 (by decide) (fun c14 => ?_) (fun c14 => ?_)
    · skip
      have hx : (3 : Int32) = if ssB c = true then 3 else 5 := by rw [c14]; decide
      refine MV.iconst (v := 3) dX12_sign_71 (by decide) ?_
      refine MV.goto 76 dX12_sign_72 (by decide) ?_
      exact h76 _ hx
    · skip
      refine MV.iload_n dX12_sign_17 rfl ?_
      refine MV.bipush (v := 40) dX12_sign_18 (by decide) ?_
      refine MV.icmp_eq 71 dX12_sign_20 (by decide) (fun c20 => ?_) (fun c20 => ?_)
      · skip
        have hx : (3 : Int32) = if ssB c = true then 3 else 5 := by rw [c20]; decide
        refine MV.iconst (v := 3) dX12_sign_71 (by decide) ?_
        refine MV.goto 76 dX12_sign_72 (by decide) ?_
        exact h76 _ hx
      · skip
        refine MV.iload_n dX12_sign_23 rfl ?_
        refine MV.bipush (v := 41) dX12_sign_24 (by decide) ?_
        refine MV.icmp_eq 71 dX12_sign_26 (by decide) (fun c26 => ?_) (fun c26 => ?_)
        · skip
          have hx : (3 : Int32) = if ssB c = true then 3 else 5 := by rw [c26]; decide
          refine MV.iconst (v := 3) dX12_sign_71 (by decide) ?_
          refine MV.goto 76 dX12_sign_72 (by decide) ?_
          exact h76 _ hx
        · skip
          refine MV.iload_n dX12_sign_29 rfl ?_
          refine MV.bipush (v := 43) dX12_sign_30 (by decide) ?_
          refine MV.icmp_eq 71 dX12_sign_32 (by decide) (fun c32 => ?_) (fun c32 => ?_)
          · skip
            have hx : (3 : Int32) = if ssB c = true then 3 else 5 := by rw [c32]; decide
            refine MV.iconst (v := 3) dX12_sign_71 (by decide) ?_
            refine MV.goto 76 dX12_sign_72 (by decide) ?_
            exact h76 _ hx
          · skip
            refine MV.iload_n dX12_sign_35 rfl ?_
            refine MV.bipush (v := 45) dX12_sign_36 (by decide) ?_
            refine MV.icmp_eq 71 dX12_sign_38 (by decide) (fun c38 => ?_) (fun c38 => ?_)
            · skip
              have hx : (3 : Int32) = if ssB c = true then 3 else 5 := by rw [c38]; decide
              refine MV.iconst (v := 3) dX12_sign_71 (by decide) ?_
              refine MV.goto 76 dX12_sign_72 (by decide) ?_
              exact h76 _ hx
            · skip
              refine MV.iload_n dX12_sign_41 rfl ?_
              refine MV.bipush (v := 42) dX12_sign_42 (by decide) ?_
              refine MV.icmp_eq 71 dX12_sign_44 (by decide) (fun c44 => ?_) (fun c44 => ?_)
              · skip
                have hx : (3 : Int32) = if ssB c = true then 3 else 5 := by rw [c44]; decide
                refine MV.iconst (v := 3) dX12_sign_71 (by decide) ?_
                refine MV.goto 76 dX12_sign_72 (by decide) ?_
                exact h76 _ hx
              · skip
                refine MV.iload_n dX12_sign_47 rfl ?_
                refine MV.bipush (v := 47) dX12_sign_48 (by decide) ?_
                refine MV.icmp_eq 71 dX12_sign_50 (by decide) (fun c50 => ?_) (fun c50 => ?_)
                · skip
                  have hx : (3 : Int32) = if ssB c = true then 3 else 5 := by rw [c50]; decide
                  refine MV.iconst (v := 3) dX12_sign_71 (by decide) ?_
                  refine MV.goto 76 dX12_sign_72 (by decide) ?_
                  exact h76 _ hx
                · skip
                  refine MV.iload_n dX12_sign_53 rfl ?_
                  refine MV.bipush (v := 60) dX12_sign_54 (by decide) ?_
                  refine MV.icmp_eq 71 dX12_sign_56 (by decide) (fun c56 => ?_) (fun c56 => ?_)
                  · skip
                    have hx : (3 : Int32) = if ssB c = true then 3 else 5 := by rw [c56]; decide
                    refine MV.iconst (v := 3) dX12_sign_71 (by decide) ?_
                    refine MV.goto 76 dX12_sign_72 (by decide) ?_
                    exact h76 _ hx
                  · skip
                    refine MV.iload_n dX12_sign_59 rfl ?_
                    refine MV.bipush (v := 61) dX12_sign_60 (by decide) ?_
                    refine MV.icmp_eq 71 dX12_sign_62 (by decide) (fun c62 => ?_) (fun c62 => ?_)
                    · skip
                      have hx : (3 : Int32) = if ssB c = true then 3 else 5 := by rw [c62]; decide
                      refine MV.iconst (v := 3) dX12_sign_71 (by decide) ?_
                      refine MV.goto 76 dX12_sign_72 (by decide) ?_
                      exact h76 _ hx
                    · skip
                      refine MV.iload_n dX12_sign_65 rfl ?_
                      refine MV.bipush (v := 62) dX12_sign_66 (by decide) ?_
                      refine MV.icmp_ne 75 dX12_sign_68 (by decide) (fun c68 => ?_) (fun c68 => ?_)
                      · skip
                        have hx : (5 : Int32) = if ssB c = true then 3 else 5 := by
                          unfold ssB
                          rw [decide_eq_false c14, decide_eq_false c20, decide_eq_false c26, decide_eq_false c32, decide_eq_false c38, decide_eq_false c44, decide_eq_false c50, decide_eq_false c56, decide_eq_false c62, decide_eq_false c68]; rfl
                        refine MV.iconst (v := 5) dX12_sign_75 (by decide) ?_
                        exact h76 _ hx
                      · skip
                        have hx : (3 : Int32) = if ssB c = true then 3 else 5 := by rw [c68]; decide
                        refine MV.iconst (v := 3) dX12_sign_71 (by decide) ?_
                        refine MV.goto 76 dX12_sign_72 (by decide) ?_
                        exact h76 _ hx
  intro x hx
  have h150 : ∀ (v : Int32) (s2 : St), CSg s s2 p x v → v = sgvM c D → MV MX12_sign (d, 0, 0, n0, κ) a h0 s2 150 [some (.ref a), some (.int c)] [] (fun v s' => v = none ∧ s'.2 = s.2 ∧ (∀ j, j ≠ 23 → j ≠ 25 → j ≠ 26 → s'.1 j = s.1 j) ∧ s'.1 23 = nI (p + sgtM c D) ∧ s'.1 25 = (if ssB c = true then 3 else 5) ∧ s'.1 26 = sgvM c D) := by
    intro v s2 C hv
    refine MV.aload_n dX12_sign_150 rfl ?_
    refine MV.getf 26 fl_X12_177 dX12_sign_151 (by decide) rfl ?_
    refine MV.sipush (v := 256) dX12_sign_154 (by decide) ?_
    refine MV.icmp_lt 170 dX12_sign_157 (by decide) (fun c157 => ?_) (fun c157 => ?_)
    · skip
      have ht : sgtM c D = 1 := by
        unfold sgtM
        rw [if_neg (fun z => ?_)]
        have hvv : sgvM c D < 256 := by rw [← hv]; rw [C.2.2.2.2] at c157; exact c157
        unfold sgvM at hvv
        rcases z with z | z | z
        · rw [if_pos z] at hvv; exact absurd hvv (by decide)
        · rw [if_neg (by rw [z.2]; exact fun y => absurd y.2 (by decide)), if_pos z] at hvv; exact absurd hvv (by decide)
        · rw [if_neg (by rw [z.1]; exact fun y => absurd y.1 (by decide)), if_neg (by rw [z.1]; exact fun y => absurd y.1 (by decide)), if_pos z] at hvv; exact absurd hvv (by decide)
      refine MV.vret dX12_sign_170 rfl ?_
      first
      | (refine ⟨rfl, C.1, C.2.1, ?_, C.2.2.2.1.trans hx, C.2.2.2.2.trans hv⟩; rw [ht]; exact C.2.2.1; done)
      | (refine ⟨rfl, C.1, fun j q1 q2 q3 => (upd_ne q1).trans (C.2.1 j q1 q2 q3), ?_, C.2.2.2.1.trans hx, C.2.2.2.2.trans hv⟩; rw [ht]; exact (congrArg (· + 1) C.2.2.1).trans (nI_1 _); done)
    · skip
      have ht : sgtM c D = 2 := by
        unfold sgtM
        rw [if_pos]
        have hvv : ¬ sgvM c D < 256 := by rw [← hv]; rw [C.2.2.2.2] at c157; exact c157
        unfold sgvM at hvv
        refine Classical.byContradiction fun z => ?_
        rw [if_neg (fun y => z (Or.inl y)), if_neg (fun y => z (Or.inr (Or.inl y))), if_neg (fun y => z (Or.inr (Or.inr y)))] at hvv
        exact hvv hc
      refine MV.aload_n dX12_sign_160 rfl ?_
      refine MV.dup dX12_sign_161 rfl ?_
      refine MV.getf 23 fl_X12_154 dX12_sign_162 (by decide) rfl ?_
      refine MV.iconst (v := 1) dX12_sign_165 (by decide) ?_
      refine MV.iadd dX12_sign_166 ?_
      refine MV.putf 23 fl_X12_154 dX12_sign_167 (by decide) rfl (rfl) (rfl) C12_s23 ?_
      refine MV.vret dX12_sign_170 rfl ?_
      first
      | (refine ⟨rfl, C.1, C.2.1, ?_, C.2.2.2.1.trans hx, C.2.2.2.2.trans hv⟩; rw [ht]; exact C.2.2.1; done)
      | (refine ⟨rfl, C.1, fun j q1 q2 q3 => (upd_ne q1).trans (C.2.1 j q1 q2 q3), ?_, C.2.2.2.1.trans hx, C.2.2.2.2.trans hv⟩; rw [ht]; exact (congrArg (· + 1) C.2.2.1).trans (nI_1 _); done)
  have h128 : ∀ (v : Int32) (s2 : St), CSg s s2 p x v → v = (if c = 60 ∧ D = 61 then 256 else if c = 60 ∧ D = 62 then 257 else c) → MV MX12_sign (d, 0, 0, n0, κ) a h0 s2 128 [some (.ref a), some (.int c)] [] (fun v s' => v = none ∧ s'.2 = s.2 ∧ (∀ j, j ≠ 23 → j ≠ 25 → j ≠ 26 → s'.1 j = s.1 j) ∧ s'.1 23 = nI (p + sgtM c D) ∧ s'.1 25 = (if ssB c = true then 3 else 5) ∧ s'.1 26 = sgvM c D) := by
    intro v s2 C hv
    refine MV.iload_n dX12_sign_128 rfl ?_
    refine MV.bipush (v := 62) dX12_sign_129 (by decide) ?_
    refine MV.icmp_ne 150 dX12_sign_131 (by decide) (fun c131 => ?_) (fun c131 => ?_)
    · skip
      have hnx := (show v = sgvM c D by rw [hv]; unfold sgvM; rw [if_neg (c := c = 62 ∧ D = 61) (fun z => c131 z.1)])
      have Cx := C
      exact h150 _ _ Cx hnx
    · skip
      skip
      refine MV.aload_n dX12_sign_134 rfl ?_
      refine MV.cV0 yoX12_here ml_X12_160 im_X12_here se_X12_here dX12_sign_135 rfl (Nat.le_of_ble_eq_true rfl) (by omega) rfl (Nat.le_of_ble_eq_true rfl) (here_M (s := s2) (n := n) (p := p + 1) (by omega) ((C.2.1 22 (by decide) (by decide) (by decide)).trans e22) C.2.2.1 hn (by omega)) (MV.rdK ?_)
      refine MV.bipush (v := 61) dX12_sign_138 (by decide) ?_
      refine MV.icmp_ne 150 dX12_sign_140 (by decide) (fun c140 => ?_) (fun c140 => ?_)
      · skip
        have hd1 : ¬ D = 61 := fun z => c140 (by rw [C.1, ← hD]; exact z)
        have hnx := (show v = sgvM c D by rw [hv]; unfold sgvM; rw [if_neg (c := c = 62 ∧ D = 61) (fun z => hd1 z.2)])
        have Cx := C
        exact h150 _ _ Cx hnx
      · skip
        have hd1 : D = 61 := by rw [C.1, ← hD] at c140; exact c140
        have hnx := (show (258 : Int32) = sgvM c D by unfold sgvM; rw [if_neg (fun z => absurd (c131.symm.trans z.1) (by decide)), if_neg (fun z => absurd (c131.symm.trans z.1) (by decide)), if_pos ⟨c131, hd1⟩])
        have Cx := C.up (w := 258)
        refine MV.aload_n dX12_sign_143 rfl ?_
        refine MV.sipush (v := 258) dX12_sign_144 (by decide) ?_
        refine MV.putf 26 fl_X12_177 dX12_sign_147 (by decide) rfl (rfl) (rfl) C12_s26 ?_
        exact h150 _ _ Cx hnx
  have h106 : ∀ (v : Int32) (s2 : St), CSg s s2 p x v → v = (if c = 60 ∧ D = 61 then 256 else c) → MV MX12_sign (d, 0, 0, n0, κ) a h0 s2 106 [some (.ref a), some (.int c)] [] (fun v s' => v = none ∧ s'.2 = s.2 ∧ (∀ j, j ≠ 23 → j ≠ 25 → j ≠ 26 → s'.1 j = s.1 j) ∧ s'.1 23 = nI (p + sgtM c D) ∧ s'.1 25 = (if ssB c = true then 3 else 5) ∧ s'.1 26 = sgvM c D) := by
    intro v s2 C hv
    refine MV.iload_n dX12_sign_106 rfl ?_
    refine MV.bipush (v := 60) dX12_sign_107 (by decide) ?_
    refine MV.icmp_ne 128 dX12_sign_109 (by decide) (fun c109 => ?_) (fun c109 => ?_)
    · skip
      have hnx := (show v = (if c = 60 ∧ D = 61 then 256 else if c = 60 ∧ D = 62 then 257 else c) by rw [hv, if_neg (c := c = 60 ∧ D = 62) (fun z => c109 z.1)])
      have Cx := C
      exact h128 _ _ Cx hnx
    · skip
      skip
      refine MV.aload_n dX12_sign_112 rfl ?_
      refine MV.cV0 yoX12_here ml_X12_160 im_X12_here se_X12_here dX12_sign_113 rfl (Nat.le_of_ble_eq_true rfl) (by omega) rfl (Nat.le_of_ble_eq_true rfl) (here_M (s := s2) (n := n) (p := p + 1) (by omega) ((C.2.1 22 (by decide) (by decide) (by decide)).trans e22) C.2.2.1 hn (by omega)) (MV.rdK ?_)
      refine MV.bipush (v := 62) dX12_sign_116 (by decide) ?_
      refine MV.icmp_ne 128 dX12_sign_118 (by decide) (fun c118 => ?_) (fun c118 => ?_)
      · skip
        have hd1 : ¬ D = 62 := fun z => c118 (by rw [C.1, ← hD]; exact z)
        have hnx := (show v = (if c = 60 ∧ D = 61 then 256 else if c = 60 ∧ D = 62 then 257 else c) by rw [hv, if_neg (c := c = 60 ∧ D = 62) (fun z => hd1 z.2)])
        have Cx := C
        exact h128 _ _ Cx hnx
      · skip
        have hd1 : D = 62 := by rw [C.1, ← hD] at c118; exact c118
        have hnx := (show (257 : Int32) = (if c = 60 ∧ D = 61 then 256 else if c = 60 ∧ D = 62 then 257 else c) by rw [if_neg (c := c = 60 ∧ D = 61) (fun z => absurd (hd1.symm.trans z.2) (by decide)), if_pos ⟨c109, hd1⟩])
        have Cx := C.up (w := 257)
        refine MV.aload_n dX12_sign_121 rfl ?_
        refine MV.sipush (v := 257) dX12_sign_122 (by decide) ?_
        refine MV.putf 26 fl_X12_177 dX12_sign_125 (by decide) rfl (rfl) (rfl) C12_s26 ?_
        exact h128 _ _ Cx hnx
  have h84 : ∀ (v : Int32) (s2 : St), CSg s s2 p x v → v = c → MV MX12_sign (d, 0, 0, n0, κ) a h0 s2 84 [some (.ref a), some (.int c)] [] (fun v s' => v = none ∧ s'.2 = s.2 ∧ (∀ j, j ≠ 23 → j ≠ 25 → j ≠ 26 → s'.1 j = s.1 j) ∧ s'.1 23 = nI (p + sgtM c D) ∧ s'.1 25 = (if ssB c = true then 3 else 5) ∧ s'.1 26 = sgvM c D) := by
    intro v s2 C hv
    refine MV.iload_n dX12_sign_84 rfl ?_
    refine MV.bipush (v := 60) dX12_sign_85 (by decide) ?_
    refine MV.icmp_ne 106 dX12_sign_87 (by decide) (fun c87 => ?_) (fun c87 => ?_)
    · skip
      have hnx := (show v = (if c = 60 ∧ D = 61 then 256 else c) by rw [hv, if_neg (fun z => c87 z.1)])
      have Cx := C
      exact h106 _ _ Cx hnx
    · skip
      skip
      refine MV.aload_n dX12_sign_90 rfl ?_
      refine MV.cV0 yoX12_here ml_X12_160 im_X12_here se_X12_here dX12_sign_91 rfl (Nat.le_of_ble_eq_true rfl) (by omega) rfl (Nat.le_of_ble_eq_true rfl) (here_M (s := s2) (n := n) (p := p + 1) (by omega) ((C.2.1 22 (by decide) (by decide) (by decide)).trans e22) C.2.2.1 hn (by omega)) (MV.rdK ?_)
      refine MV.bipush (v := 61) dX12_sign_94 (by decide) ?_
      refine MV.icmp_ne 106 dX12_sign_96 (by decide) (fun c96 => ?_) (fun c96 => ?_)
      · skip
        have hd1 : ¬ D = 61 := fun z => c96 (by rw [C.1, ← hD]; exact z)
        have hnx := (show v = (if c = 60 ∧ D = 61 then 256 else c) by rw [hv, if_neg (fun z => hd1 z.2)])
        have Cx := C
        exact h106 _ _ Cx hnx
      · skip
        have hd1 : D = 61 := by rw [C.1, ← hD] at c96; exact c96
        have hnx := (show (256 : Int32) = (if c = 60 ∧ D = 61 then 256 else c) by rw [if_pos ⟨c87, hd1⟩])
        have Cx := C.up (w := 256)
        refine MV.aload_n dX12_sign_99 rfl ?_
        refine MV.sipush (v := 256) dX12_sign_100 (by decide) ?_
        refine MV.putf 26 fl_X12_177 dX12_sign_103 (by decide) rfl (rfl) (rfl) C12_s26 ?_
        exact h106 _ _ Cx hnx
  refine MV.putf 25 fl_X12_167 dX12_sign_76 (by decide) rfl (rfl) (rfl) C12_s25 ?_
  refine MV.aload_n dX12_sign_79 rfl ?_
  refine MV.iload_n dX12_sign_80 rfl ?_
  refine MV.putf 26 fl_X12_177 dX12_sign_81 (by decide) rfl (rfl) (rfl) C12_s26 ?_
  exact h84 c _ ⟨rfl, fun j q1 q2 q3 => ((upd_ne q3).trans (upd_ne q2)).trans (upd_ne q1), (congrArg (· + 1) e23).trans (nI_1 p), rfl, rfl⟩ rfl
