/-! The model text: token -/
set_option maxRecDepth 100000 in
set_option maxHeartbeats 1000000 in
theorem isSmall_V {d n0 : Nat} {κ : Kd} (hd : 1 ≤ d) {h : Hp} {x : Int32} : V MX12_isSmall (d, 0, 0, n0, κ) 0 0 h 0 [some (.int (x))] [] (Rd h (.int (bI (letB x)))) := by
  refine V.iload_n dX12_isSmall_0 rfl ?_
  refine V.bipush (v := 97) dX12_isSmall_1 (by decide) ?_
  refine V.icmp_lt 16 dX12_isSmall_3 (by decide) (fun c3 => ?_) (fun c3 => ?_)
  · skip
    refine V.iconst (v := 0) dX12_isSmall_16 (by decide) ?_
    refine V.zret .boolean dX12_isSmall_17 rfl (rfl) ?_
    exact ⟨by simp_all [letB, bI], rfl⟩
  · skip
    refine V.iload_n dX12_isSmall_6 rfl ?_
    refine V.bipush (v := 122) dX12_isSmall_7 (by decide) ?_
    refine V.icmp_gt 16 dX12_isSmall_9 (by decide) (fun c9 => ?_) (fun c9 => ?_)
    · skip
      refine V.iconst (v := 0) dX12_isSmall_16 (by decide) ?_
      refine V.zret .boolean dX12_isSmall_17 rfl (rfl) ?_
      exact ⟨by simp_all [letB, bI], rfl⟩
    · skip
      refine V.iconst (v := 1) dX12_isSmall_12 (by decide) ?_
      refine V.goto 17 dX12_isSmall_13 (by decide) ?_
      refine V.zret .boolean dX12_isSmall_17 rfl (rfl) ?_
      exact ⟨by simp_all [letB, bI], rfl⟩
set_option maxRecDepth 100000 in
set_option maxHeartbeats 1000000 in
theorem isDigit_V {d n0 : Nat} {κ : Kd} (hd : 1 ≤ d) {h : Hp} {x : Int32} : V MX12_isDigit (d, 0, 0, n0, κ) 0 0 h 0 [some (.int (x))] [] (Rd h (.int (bI (digB x)))) := by
  refine V.iload_n dX12_isDigit_0 rfl ?_
  refine V.bipush (v := 48) dX12_isDigit_1 (by decide) ?_
  refine V.icmp_lt 16 dX12_isDigit_3 (by decide) (fun c3 => ?_) (fun c3 => ?_)
  · skip
    refine V.iconst (v := 0) dX12_isDigit_16 (by decide) ?_
    refine V.zret .boolean dX12_isDigit_17 rfl (rfl) ?_
    exact ⟨by simp_all [digB, bI], rfl⟩
  · skip
    refine V.iload_n dX12_isDigit_6 rfl ?_
    refine V.bipush (v := 57) dX12_isDigit_7 (by decide) ?_
    refine V.icmp_gt 16 dX12_isDigit_9 (by decide) (fun c9 => ?_) (fun c9 => ?_)
    · skip
      refine V.iconst (v := 0) dX12_isDigit_16 (by decide) ?_
      refine V.zret .boolean dX12_isDigit_17 rfl (rfl) ?_
      exact ⟨by simp_all [digB, bI], rfl⟩
    · skip
      refine V.iconst (v := 1) dX12_isDigit_12 (by decide) ?_
      refine V.goto 17 dX12_isDigit_13 (by decide) ?_
      refine V.zret .boolean dX12_isDigit_17 rfl (rfl) ?_
      exact ⟨by simp_all [digB, bI], rfl⟩
def nuM (b : Nat → Int32) (q : Nat) : Nat → Int32
  | 0 => 0
  | k + 1 => if 99999 < nuM b q k then nuM b q k else 10 * nuM b q k + b (q + k) - 48
/-- all but where reading is, is as it was -/
def CT (s s2 : St) (p : Nat) : Prop := s2.2 = s.2 ∧ (∀ j, j ≠ 23 → s2.1 j = s.1 j) ∧ s2.1 23 = nI p
theorem CT.up {s s2 : St} {p : Nat} {x : Int32} (h : CT s s2 p) (hx : x = nI (p + 1)) : CT s (mI s2 23 x) (p + 1) := ⟨h.1, fun j a => (upd_ne a).trans (h.2.1 j a), hx⟩
theorem sgA_lt {b : Nat → Int32} {n p : Nat} (h : p < n) : sgA b n p = b p := if_pos h
theorem sgA_ge {b : Nat → Int32} {n p : Nat} (h : n ≤ p) : sgA b n p = -1 := if_neg (by omega)
set_option maxRecDepth 100000 in
set_option maxHeartbeats 2000000 in
theorem blanks_M {d n0 a : Nat} {κ : Kd} {h0 : Hp} (hd : 3 ≤ d) {s : St} {n : Nat} (e22 : s.1 22 = nI n) (hn : n ≤ 700) {q : Nat} {P : Option Value → St → Prop} (hk : ∀ s3, CT s s3 q → MV MX12_token (d, 0, 0, n0, κ) a h0 s3 31 [some (.ref a), none] [] P) : ∀ (f p : Nat) (s2 : St), p + f = n → CT s s2 p → spF blkB (s.2.1 1) f p = q → MV MX12_token (d, 0, 0, n0, κ) a h0 s2 0 [some (.ref a), none] [] P := by
  intro f
  induction f with
  | zero =>
    intro p s2 hpf C hq
    have hpq : p = q := hq
    rw [hpq] at C
    subst hpq
    have hh : sgA (s2.2.1 1) n p = -1 := sgA_ge (by omega)
    refine MV.aload_n dX12_token_0 rfl ?_
    refine MV.cV0 yoX12_here ml_X12_160 im_X12_here se_X12_here dX12_token_1 rfl (Nat.le_of_ble_eq_true rfl) (by omega) rfl (Nat.le_of_ble_eq_true rfl) (here_M (s := s2) (n := n) (p := p) (by omega) ((C.2.1 22 (by decide)).trans e22) C.2.2 hn (by omega)) (MV.rdK ?_)
    refine MV.eqi (-1) hh ?_
    refine MV.bipush (v := 10) dX12_token_4 (by decide) ?_
    refine MV.icmp_eq 18 dX12_token_6 (by decide) (fun z => absurd z (show ¬ (-1 : Int32) = 10 by decide)) (fun _ => ?_)
    refine MV.aload_n dX12_token_9 rfl ?_
    refine MV.cV0 yoX12_here ml_X12_160 im_X12_here se_X12_here dX12_token_10 rfl (Nat.le_of_ble_eq_true rfl) (by omega) rfl (Nat.le_of_ble_eq_true rfl) (here_M (s := s2) (n := n) (p := p) (by omega) ((C.2.1 22 (by decide)).trans e22) C.2.2 hn (by omega)) (MV.rdK ?_)
    refine MV.eqi (-1) hh ?_
    refine MV.bipush (v := 32) dX12_token_13 (by decide) ?_
    refine MV.icmp_ne 31 dX12_token_15 (by decide) (fun _ => ?_) (fun z => absurd z (show ¬ (-1 : Int32) = 32 by decide))
    exact hk _ C
  | succ f ih =>
    intro p s2 hpf C hq
    have hh : sgA (s2.2.1 1) n p = s.2.1 1 p := by rw [C.1]; exact sgA_lt (by omega)
    refine MV.aload_n dX12_token_0 rfl ?_
    refine MV.cV0 yoX12_here ml_X12_160 im_X12_here se_X12_here dX12_token_1 rfl (Nat.le_of_ble_eq_true rfl) (by omega) rfl (Nat.le_of_ble_eq_true rfl) (here_M (s := s2) (n := n) (p := p) (by omega) ((C.2.1 22 (by decide)).trans e22) C.2.2 hn (by omega)) (MV.rdK ?_)
    refine MV.eqi (s.2.1 1 p) hh ?_
    refine MV.bipush (v := 10) dX12_token_4 (by decide) ?_
    refine MV.icmp_eq 18 dX12_token_6 (by decide) (fun c6 => ?_) (fun c6 => ?_)
    · skip
      have hb : blkB (s.2.1 1 p) = true := by unfold blkB; rw [c6]; decide
      have hq2 : spF blkB (s.2.1 1) f (p + 1) = q := by rw [← hq, spF, if_pos hb]
      refine MV.aload_n dX12_token_18 rfl ?_
      refine MV.dup dX12_token_19 rfl ?_
      refine MV.getf 23 fl_X12_154 dX12_token_20 (by decide) rfl ?_
      refine MV.iconst (v := 1) dX12_token_23 (by decide) ?_
      refine MV.iadd dX12_token_24 ?_
      refine MV.putf 23 fl_X12_154 dX12_token_25 (by decide) rfl (rfl) (rfl) C12_s23 ?_
      refine MV.goto 0 dX12_token_28 (by decide) ?_
      exact ih (p + 1) _ (by omega) (C.up ((congrArg (· + 1) C.2.2).trans (nI_1 p))) hq2
    · skip
      refine MV.aload_n dX12_token_9 rfl ?_
      refine MV.cV0 yoX12_here ml_X12_160 im_X12_here se_X12_here dX12_token_10 rfl (Nat.le_of_ble_eq_true rfl) (by omega) rfl (Nat.le_of_ble_eq_true rfl) (here_M (s := s2) (n := n) (p := p) (by omega) ((C.2.1 22 (by decide)).trans e22) C.2.2 hn (by omega)) (MV.rdK ?_)
      refine MV.eqi (s.2.1 1 p) hh ?_
      refine MV.bipush (v := 32) dX12_token_13 (by decide) ?_
      refine MV.icmp_ne 31 dX12_token_15 (by decide) (fun c15 => ?_) (fun c15 => ?_)
      · skip
        have hb : blkB (s.2.1 1 p) = false := by unfold blkB; rw [decide_eq_false c6, decide_eq_false c15]; rfl
        have hpq : p = q := by rw [← hq, spF, if_neg (by rw [hb]; decide)]
        rw [hpq] at C
        exact hk _ C
      · skip
        have hb : blkB (s.2.1 1 p) = true := by unfold blkB; rw [c15]; decide
        have hq2 : spF blkB (s.2.1 1) f (p + 1) = q := by rw [← hq, spF, if_pos hb]
        refine MV.aload_n dX12_token_18 rfl ?_
        refine MV.dup dX12_token_19 rfl ?_
        refine MV.getf 23 fl_X12_154 dX12_token_20 (by decide) rfl ?_
        refine MV.iconst (v := 1) dX12_token_23 (by decide) ?_
        refine MV.iadd dX12_token_24 ?_
        refine MV.putf 23 fl_X12_154 dX12_token_25 (by decide) rfl (rfl) (rfl) C12_s23 ?_
        refine MV.goto 0 dX12_token_28 (by decide) ?_
        exact ih (p + 1) _ (by omega) (C.up ((congrArg (· + 1) C.2.2).trans (nI_1 p))) hq2
set_option maxRecDepth 100000 in
set_option maxHeartbeats 2000000 in
theorem letters_M {d n0 a : Nat} {κ : Kd} {h0 : Hp} (hd : 3 ≤ d) {s : St} {n : Nat} (e22 : s.1 22 = nI n) (hn : n ≤ 700) {c : Int32} {q : Nat} {P : Option Value → St → Prop} (hk : ∀ s3, CT s s3 q → MV MX12_token (d, 0, 0, n0, κ) a h0 s3 87 [some (.ref a), some (.int (c))] [] P) : ∀ (f p : Nat) (s2 : St), p + f = n → CT s s2 p → spF letB (s.2.1 1) f p = q → MV MX12_token (d, 0, 0, n0, κ) a h0 s2 64 [some (.ref a), some (.int (c))] [] P := by
  intro f
  induction f with
  | zero =>
    intro p s2 hpf C hq
    have hpq : p = q := hq
    rw [hpq] at C
    subst hpq
    have hh : sgA (s2.2.1 1) n p = -1 := sgA_ge (by omega)
    refine MV.aload_n dX12_token_64 rfl ?_
    refine MV.cV0 yoX12_here ml_X12_160 im_X12_here se_X12_here dX12_token_65 rfl (Nat.le_of_ble_eq_true rfl) (by omega) rfl (Nat.le_of_ble_eq_true rfl) (here_M (s := s2) (n := n) (p := p) (by omega) ((C.2.1 22 (by decide)).trans e22) C.2.2 hn (by omega)) (MV.rdK ?_)
    refine MV.eqi (-1) hh ?_
    refine MV.cS1 yoX12_isSmall ml_X12_170 st_X12_isSmall dX12_token_68 (Nat.le_of_ble_eq_true rfl) (by omega) rfl (Nat.le_of_ble_eq_true rfl) (fun h H => isSmall_V (by omega)) ?_
    refine MV.if_eq 87 dX12_token_71 (by decide) (fun _ => ?_) (fun z => absurd (rfl) z)
    exact hk _ C
  | succ f ih =>
    intro p s2 hpf C hq
    have hh : sgA (s2.2.1 1) n p = s.2.1 1 p := by rw [C.1]; exact sgA_lt (by omega)
    refine MV.aload_n dX12_token_64 rfl ?_
    refine MV.cV0 yoX12_here ml_X12_160 im_X12_here se_X12_here dX12_token_65 rfl (Nat.le_of_ble_eq_true rfl) (by omega) rfl (Nat.le_of_ble_eq_true rfl) (here_M (s := s2) (n := n) (p := p) (by omega) ((C.2.1 22 (by decide)).trans e22) C.2.2 hn (by omega)) (MV.rdK ?_)
    refine MV.eqi (s.2.1 1 p) hh ?_
    refine MV.cS1 yoX12_isSmall ml_X12_170 st_X12_isSmall dX12_token_68 (Nat.le_of_ble_eq_true rfl) (by omega) rfl (Nat.le_of_ble_eq_true rfl) (fun h H => isSmall_V (by omega)) ?_
    refine MV.if_eq 87 dX12_token_71 (by decide) (fun c71 => ?_) (fun c71 => ?_)
    · skip
      have hb : letB (s.2.1 1 p) = false := bI_f c71
      have hpq : p = q := by rw [← hq, spF, if_neg (by rw [hb]; decide)]
      rw [hpq] at C
      exact hk _ C
    · skip
      have hb : letB (s.2.1 1 p) = true := bI_t c71
      have hq2 : spF letB (s.2.1 1) f (p + 1) = q := by rw [← hq, spF, if_pos hb]
      refine MV.aload_n dX12_token_74 rfl ?_
      refine MV.dup dX12_token_75 rfl ?_
      refine MV.getf 23 fl_X12_154 dX12_token_76 (by decide) rfl ?_
      refine MV.iconst (v := 1) dX12_token_79 (by decide) ?_
      refine MV.iadd dX12_token_80 ?_
      refine MV.putf 23 fl_X12_154 dX12_token_81 (by decide) rfl (rfl) (rfl) C12_s23 ?_
      refine MV.goto 64 dX12_token_84 (by decide) ?_
      exact ih (p + 1) _ (by omega) (C.up ((congrArg (· + 1) C.2.2).trans (nI_1 p))) hq2
def DT (s s2 : St) (p : Nat) (v : Int32) : Prop := s2.2 = s.2 ∧ (∀ j, j ≠ 23 → j ≠ 26 → s2.1 j = s.1 j) ∧ s2.1 23 = nI p ∧ s2.1 26 = v
theorem DT.up {s s2 : St} {p : Nat} {v w x : Int32} (h : DT s s2 p v) (hx : x = nI (p + 1)) : DT s (mI (mI s2 26 w) 23 x) (p + 1) w := ⟨h.1, fun j a b => ((upd_ne a).trans (upd_ne b)).trans (h.2.1 j a b), hx, rfl⟩
set_option maxRecDepth 100000 in
set_option maxHeartbeats 2000000 in
theorem digits_M {d n0 a : Nat} {κ : Kd} {h0 : Hp} (hd : 3 ≤ d) {s : St} {n : Nat} (e22 : s.1 22 = nI n) (hn : n ≤ 700) {c : Int32} {q0 e : Nat} {P : Option Value → St → Prop} (hk : ∀ s3, DT s s3 e (nuM (s.2.1 1) q0 (e - q0)) → MV MX12_token (d, 0, 0, n0, κ) a h0 s3 225 [some (.ref a), some (.int (c))] [] P) : ∀ (f p k : Nat) (s2 : St), p + f = n → p = q0 + k → DT s s2 p (nuM (s.2.1 1) q0 k) → spF digB (s.2.1 1) f p = e → MV MX12_token (d, 0, 0, n0, κ) a h0 s2 162 [some (.ref a), some (.int (c))] [] P := by
  intro f
  induction f with
  | zero =>
    intro p k s2 hpf hpk C hq
    have hpe : p = e := hq
    rw [hpe, show k = e - q0 by omega] at C
    subst hpe
    have hh : sgA (s2.2.1 1) n p = -1 := sgA_ge (by omega)
    refine MV.aload_n dX12_token_162 rfl ?_
    refine MV.cV0 yoX12_here ml_X12_160 im_X12_here se_X12_here dX12_token_163 rfl (Nat.le_of_ble_eq_true rfl) (by omega) rfl (Nat.le_of_ble_eq_true rfl) (here_M (s := s2) (n := n) (p := p) (by omega) ((C.2.1 22 (by decide) (by decide)).trans e22) C.2.2.1 hn (by omega)) (MV.rdK ?_)
    refine MV.eqi (-1) hh ?_
    refine MV.cS1 yoX12_isDigit ml_X12_183 st_X12_isDigit dX12_token_166 (Nat.le_of_ble_eq_true rfl) (by omega) rfl (Nat.le_of_ble_eq_true rfl) (fun h H => isDigit_V (by omega)) ?_
    refine MV.if_eq 225 dX12_token_169 (by decide) (fun _ => ?_) (fun z => absurd (rfl) z)
    exact hk _ C
  | succ f ih =>
    intro p k s2 hpf hpk C hq
    have hh : sgA (s2.2.1 1) n p = s.2.1 1 p := by rw [C.1]; exact sgA_lt (by omega)
    refine MV.aload_n dX12_token_162 rfl ?_
    refine MV.cV0 yoX12_here ml_X12_160 im_X12_here se_X12_here dX12_token_163 rfl (Nat.le_of_ble_eq_true rfl) (by omega) rfl (Nat.le_of_ble_eq_true rfl) (here_M (s := s2) (n := n) (p := p) (by omega) ((C.2.1 22 (by decide) (by decide)).trans e22) C.2.2.1 hn (by omega)) (MV.rdK ?_)
    refine MV.eqi (s.2.1 1 p) hh ?_
    refine MV.cS1 yoX12_isDigit ml_X12_183 st_X12_isDigit dX12_token_166 (Nat.le_of_ble_eq_true rfl) (by omega) rfl (Nat.le_of_ble_eq_true rfl) (fun h H => isDigit_V (by omega)) ?_
    refine MV.if_eq 225 dX12_token_169 (by decide) (fun c169 => ?_) (fun c169 => ?_)
    · skip
      have hb : digB (s.2.1 1 p) = false := bI_f c169
      have hpe : p = e := by rw [← hq, spF, if_neg (by rw [hb]; decide)]
      rw [hpe, show k = e - q0 by omega] at C
      exact hk _ C
    · skip
      have hb : digB (s.2.1 1 p) = true := bI_t c169
      have hq2 : spF digB (s.2.1 1) f (p + 1) = e := by rw [← hq, spF, if_pos hb]
      refine MV.aload_n dX12_token_172 rfl ?_
      refine MV.aload_n dX12_token_173 rfl ?_
      refine MV.getf 26 fl_X12_177 dX12_token_174 (by decide) rfl ?_
      refine MV.ldc kc_X12_186 dX12_token_177 ?_
      refine MV.icmp_le 189 dX12_token_179 (by decide) (fun c179 => ?_) (fun c179 => ?_)
      · skip
        have hv : 10 * s2.1 26 + s.2.1 1 p - 48 = nuM (s.2.1 1) q0 (k + 1) := by rw [C.2.2.2, nuM, if_neg (by rw [← C.2.2.2]; exact Int32.not_lt.mpr c179), hpk]
        refine MV.bipush (v := 10) dX12_token_189 (by decide) ?_
        refine MV.aload_n dX12_token_191 rfl ?_
        refine MV.getf 26 fl_X12_177 dX12_token_192 (by decide) rfl ?_
        refine MV.imul dX12_token_195 ?_
        refine MV.aload_n dX12_token_196 rfl ?_
        refine MV.cV0 yoX12_here ml_X12_160 im_X12_here se_X12_here dX12_token_197 rfl (Nat.le_of_ble_eq_true rfl) (by omega) rfl (Nat.le_of_ble_eq_true rfl) (here_M (s := s2) (n := n) (p := p) (by omega) ((C.2.1 22 (by decide) (by decide)).trans e22) C.2.2.1 hn (by omega)) (MV.rdK ?_)
        refine MV.eqi (s.2.1 1 p) hh ?_
        refine MV.iadd dX12_token_200 ?_
        refine MV.bipush (v := 48) dX12_token_201 (by decide) ?_
        refine MV.isub dX12_token_203 ?_
        refine MV.eqi _ hv ?_
        refine MV.putf 26 fl_X12_177 dX12_token_204 (by decide) rfl (rfl) (rfl) C12_s26 ?_
        refine MV.aload_n dX12_token_207 rfl ?_
        refine MV.dup dX12_token_208 rfl ?_
        refine MV.getf 23 fl_X12_154 dX12_token_209 (by decide) rfl ?_
        refine MV.iconst (v := 1) dX12_token_212 (by decide) ?_
        refine MV.iadd dX12_token_213 ?_
        refine MV.putf 23 fl_X12_154 dX12_token_214 (by decide) rfl (rfl) (rfl) C12_s23 ?_
        refine MV.goto 162 dX12_token_217 (by decide) ?_
        exact ih (p + 1) (k + 1) _ (by omega) (by omega) (C.up ((congrArg (· + 1) C.2.2.1).trans (nI_1 p))) hq2
      · skip
        have hv : s2.1 26 = nuM (s.2.1 1) q0 (k + 1) := by rw [C.2.2.2, nuM, if_pos (by rw [← C.2.2.2]; exact Int32.not_le.mp c179)]
        refine MV.aload_n dX12_token_182 rfl ?_
        refine MV.getf 26 fl_X12_177 dX12_token_183 (by decide) rfl ?_
        refine MV.goto 204 dX12_token_186 (by decide) ?_
        refine MV.eqi _ hv ?_
        refine MV.putf 26 fl_X12_177 dX12_token_204 (by decide) rfl (rfl) (rfl) C12_s26 ?_
        refine MV.aload_n dX12_token_207 rfl ?_
        refine MV.dup dX12_token_208 rfl ?_
        refine MV.getf 23 fl_X12_154 dX12_token_209 (by decide) rfl ?_
        refine MV.iconst (v := 1) dX12_token_212 (by decide) ?_
        refine MV.iadd dX12_token_213 ?_
        refine MV.putf 23 fl_X12_154 dX12_token_214 (by decide) rfl (rfl) (rfl) C12_s23 ?_
        refine MV.goto 162 dX12_token_217 (by decide) ?_
        exact ih (p + 1) (k + 1) _ (by omega) (by omega) (C.up ((congrArg (· + 1) C.2.2.1).trans (nI_1 p))) hq2
/-- the TOKEN at q as the model keeps it: where reading goes on, its place, sort, value -/
def tkQ (b : Nat → Int32) (n q : Nat) (v0 : Int32) : Nat × Nat × Int32 × Int32 :=
  if n ≤ q then (q, q, 4, v0) else
  if letB (b q) = true then (if ¬ wdM b q (spF letB b (n - q) q) 21 0 = -1 then (spF letB b (n - q) q, q, 0, wdM b q (spF letB b (n - q) q) 21 0) else if 6 < spF letB b (n - q) q - q then (spF letB b (n - q) q, q, 5, -1) else (spF letB b (n - q) q, q, 1, hoF b q (spF letB b (n - q) q) 6)) else
  if digB (b q) = true then (spF digB b (n - q) q, q, 2, nuM b q (spF digB b (n - q) q - q)) else
  (q + sgtM (b q) (sgA b n (q + 1)), q, if ssB (b q) = true then 3 else 5, sgvM (b q) (sgA b n (q + 1)))
def tkM (b : Nat → Int32) (n p : Nat) (v0 : Int32) : Nat × Nat × Int32 × Int32 := tkQ b n (spF blkB b (n - p) p) v0
def tkR (s s' : St) (t : Nat × Nat × Int32 × Int32) : Prop := frK2 s s' ∧ s'.1 23 = nI t.1 ∧ s'.1 24 = nI t.2.1 ∧ s'.1 25 = t.2.2.1 ∧ s'.1 26 = t.2.2.2
