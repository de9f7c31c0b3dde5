/-! Tokens -/
theorem V.getWN {Y : Yd} {Z : Zd} {ca sl : Nat} {h : Hp} {pc : Nat} {L : List (Option Value)} {rest : List Value} {P : Option Value → Hp → Prop} {idx : Nat} {host : String} (hlk : Cond.fieldLinkNest Y.1.cls idx "BurntEnds" "WORDS" "[I" host ∈ NW) (hdg : decode Y.2.1 pc = .ok (.getstatic idx, 3)) (k : V Y Z ca sl h (pc + 3) L (.ref Z.2.2.2.2.1 :: rest) P) : V Y Z ca sl h pc L rest P := by
  intro p l e s m args below meth c G aC A H locs ls hF hK hRO hA hn hR hz hS hL
  exact va_getsN hF.1 hF.2.1 hRO.1.1 hS hF.2.2.2.1 (va_Nw.use rfl (hF.2.2.2.2.2.2.2.2 _ hlk)) (fun x hx => hx) hdg (k p l e s m args below meth c G aC A H locs ls hF hK hRO hA hn hR hz hS hL)
theorem V.eqi {Y : Yd} {Z : Zd} {ca sl : Nat} {h : Hp} {pc : Nat} {L : List (Option Value)} {rest : List Value} {P : Option Value → Hp → Prop} {x y : Int32} (e : x = y) (k : V Y Z ca sl h pc L (.int y :: rest) P) : V Y Z ca sl h pc L (.int x :: rest) P := by
  rw [e]
  exact k
/-- the TOKENS: how long, where it stands, kind, place, value; the row they are read from -/
def isK (h : Hp) (a tp : Nat) (n p : Nat) (kd : Int32) (pl : Nat) (vl : Int32) : Prop := ∃ s : St, isR C7 h a s ∧ s.2.2.2 0 = tp ∧ s.1 1 = nI n ∧ s.1 2 = nI p ∧ s.1 3 = kd ∧ s.1 4 = nI pl ∧ s.1 5 = vl
theorem isK.kept {h h' : Hp} {a tp n p pl : Nat} {kd vl : Int32} (H : isK h a tp n p kd pl vl) (e : h' a = h a) : isK h' a tp n p kd pl vl := by
  obtain ⟨s, H, r⟩ := H
  exact ⟨s, H.kept C7_ok (fun b w1 w2 => by have w3 : b < a + 1 := w2; rw [show b = a by omega]; exact e), r⟩
def letB (c : Int32) : Bool := decide (¬ c < 97) && decide (¬ 122 < c)
def digB (c : Int32) : Bool := decide (¬ c < 48) && decide (¬ 57 < c)
def blkB (c : Int32) : Bool := decide (c = 10) || decide (c = 32)
/-- how far such signs go from p on, f at most -/
def spF (t : Int32 → Bool) (b : Nat → Int32) : Nat → Nat → Nat
  | 0, p => p
  | f + 1, p => if t (b p) = true then spF t b f (p + 1) else p
theorem spF_ge (t : Int32 → Bool) (b : Nat → Int32) : ∀ f p, p ≤ spF t b f p ∧ spF t b f p ≤ p + f := by
  intro f
  induction f with
  | zero => intro p; simp [spF]
  | succ f ih =>
    intro p
    unfold spF
    split
    · have := ih (p + 1); omega
    · omega
def pkF (b : Nat → Int32) (q : Nat) : Nat → Int32
  | 0 => 0
  | k + 1 => if nI 5 - nI k < 0 then pkF b q k else pkF b q k ||| ((b (q + k) - 97 + 1) <<< ((5 * (nI 5 - nI k)) &&& 31))
def nuF (b : Nat → Int32) (q : Nat) : Nat → Int32
  | 0 => 0
  | k + 1 => cMin 1000000 (nuF b q k * 10 + b (q + k) - 48)
def wdK (x : Int32) : Nat → Nat → Int32
  | 0, _ => -4
  | k + 1, i => if wW.getD i 0 = x then nI i else wdK x k (i + 1)
def sgK (c d : Int32) : Int32 := if c = 59 then 30 else if c = 40 then 31 else if c = 41 then 32 else if c = 60 then (if d = 61 then 34 else if d = 62 then 36 else 33) else if c = 61 then 35 else if c = 62 then (if d = 61 then 37 else 38) else if c = 43 then 39 else if c = 45 then 40 else if c = 42 then 41 else if c = 47 then 42 else -2
def twoB (k : Int32) : Bool := decide (k = 34) || decide (k = 36) || decide (k = 37)
def sgA (b : Nat → Int32) (n p : Nat) : Int32 := if p < n then b p else -1
set_option maxRecDepth 100000 in
set_option maxHeartbeats 1000000 in
theorem letB_V {d n0 : Nat} {κ : Kd} (hd : 1 ≤ d) {h : Hp} {x : Int32} : V MX7_isLetter (d, 0, 0, n0, κ) 0 0 h 0 [some (.int (x))] [] (Rd h (.int (bI (letB x)))) := by
  refine V.iload_n dX7_isLetter_0 rfl ?_
  refine V.bipush (v := 97) dX7_isLetter_1 (by decide) ?_
  refine V.icmp_lt 16 dX7_isLetter_3 (by decide) (fun c3 => ?_) (fun c3 => ?_)
  · skip
    refine V.iconst (v := 0) dX7_isLetter_16 (by decide) ?_
    refine V.zret .boolean dX7_isLetter_17 rfl (rfl) ?_
    exact ⟨by simp_all [letB, bI], rfl⟩
  · skip
    refine V.iload_n dX7_isLetter_6 rfl ?_
    refine V.bipush (v := 122) dX7_isLetter_7 (by decide) ?_
    refine V.icmp_gt 16 dX7_isLetter_9 (by decide) (fun c9 => ?_) (fun c9 => ?_)
    · skip
      refine V.iconst (v := 0) dX7_isLetter_16 (by decide) ?_
      refine V.zret .boolean dX7_isLetter_17 rfl (rfl) ?_
      exact ⟨by simp_all [letB, bI], rfl⟩
    · skip
      refine V.iconst (v := 1) dX7_isLetter_12 (by decide) ?_
      refine V.goto 17 dX7_isLetter_13 (by decide) ?_
      refine V.zret .boolean dX7_isLetter_17 rfl (rfl) ?_
      exact ⟨by simp_all [letB, bI], rfl⟩
set_option maxRecDepth 100000 in
set_option maxHeartbeats 1000000 in
theorem digB_V {d n0 : Nat} {κ : Kd} (hd : 1 ≤ d) {h : Hp} {x : Int32} : V MX7_isDigit (d, 0, 0, n0, κ) 0 0 h 0 [some (.int (x))] [] (Rd h (.int (bI (digB x)))) := by
  refine V.iload_n dX7_isDigit_0 rfl ?_
  refine V.bipush (v := 48) dX7_isDigit_1 (by decide) ?_
  refine V.icmp_lt 16 dX7_isDigit_3 (by decide) (fun c3 => ?_) (fun c3 => ?_)
  · skip
    refine V.iconst (v := 0) dX7_isDigit_16 (by decide) ?_
    refine V.zret .boolean dX7_isDigit_17 rfl (rfl) ?_
    exact ⟨by simp_all [digB, bI], rfl⟩
  · skip
    refine V.iload_n dX7_isDigit_6 rfl ?_
    refine V.bipush (v := 57) dX7_isDigit_7 (by decide) ?_
    refine V.icmp_gt 16 dX7_isDigit_9 (by decide) (fun c9 => ?_) (fun c9 => ?_)
    · skip
      refine V.iconst (v := 0) dX7_isDigit_16 (by decide) ?_
      refine V.zret .boolean dX7_isDigit_17 rfl (rfl) ?_
      exact ⟨by simp_all [digB, bI], rfl⟩
    · skip
      refine V.iconst (v := 1) dX7_isDigit_12 (by decide) ?_
      refine V.goto 17 dX7_isDigit_13 (by decide) ?_
      refine V.zret .boolean dX7_isDigit_17 rfl (rfl) ?_
      exact ⟨by simp_all [digB, bI], rfl⟩
set_option maxRecDepth 100000 in
set_option maxHeartbeats 1000000 in
theorem twoB_V {d n0 : Nat} {κ : Kd} (hd : 1 ≤ d) {h : Hp} {x : Int32} : V MX7_isTwoSigns (d, 0, 0, n0, κ) 0 0 h 0 [some (.int (x))] [] (Rd h (.int (bI (twoB x)))) := by
  refine V.iload_n dX7_isTwoSigns_0 rfl ?_
  refine V.bipush (v := 34) dX7_isTwoSigns_1 (by decide) ?_
  refine V.icmp_eq 18 dX7_isTwoSigns_3 (by decide) (fun c3 => ?_) (fun c3 => ?_)
  · skip
    refine V.iconst (v := 1) dX7_isTwoSigns_18 (by decide) ?_
    refine V.goto 23 dX7_isTwoSigns_19 (by decide) ?_
    refine V.zret .boolean dX7_isTwoSigns_23 rfl (rfl) ?_
    exact ⟨by simp_all [twoB, bI], rfl⟩
  · skip
    refine V.iload_n dX7_isTwoSigns_6 rfl ?_
    refine V.bipush (v := 36) dX7_isTwoSigns_7 (by decide) ?_
    refine V.icmp_eq 18 dX7_isTwoSigns_9 (by decide) (fun c9 => ?_) (fun c9 => ?_)
    · skip
      refine V.iconst (v := 1) dX7_isTwoSigns_18 (by decide) ?_
      refine V.goto 23 dX7_isTwoSigns_19 (by decide) ?_
      refine V.zret .boolean dX7_isTwoSigns_23 rfl (rfl) ?_
      exact ⟨by simp_all [twoB, bI], rfl⟩
    · skip
      refine V.iload_n dX7_isTwoSigns_12 rfl ?_
      refine V.bipush (v := 37) dX7_isTwoSigns_13 (by decide) ?_
      refine V.icmp_ne 22 dX7_isTwoSigns_15 (by decide) (fun c15 => ?_) (fun c15 => ?_)
      · skip
        refine V.iconst (v := 0) dX7_isTwoSigns_22 (by decide) ?_
        refine V.zret .boolean dX7_isTwoSigns_23 rfl (rfl) ?_
        exact ⟨by simp_all [twoB, bI], rfl⟩
      · skip
        refine V.iconst (v := 1) dX7_isTwoSigns_18 (by decide) ?_
        refine V.goto 23 dX7_isTwoSigns_19 (by decide) ?_
        refine V.zret .boolean dX7_isTwoSigns_23 rfl (rfl) ?_
        exact ⟨by simp_all [twoB, bI], rfl⟩
set_option maxRecDepth 100000 in
set_option maxHeartbeats 1000000 in
theorem sgK_V {d n0 : Nat} {κ : Kd} (hd : 1 ≤ d) {h : Hp} {x y : Int32} : V MX7_signKind (d, 0, 0, n0, κ) 0 0 h 0 [some (.int (x)), some (.int (y))] [] (Rd h (.int (sgK x y))) := by
  refine V.iload_n dX7_signKind_0 rfl ?_
  refine V.tswG [(40, 111), (41, 114), (42, 165), (43, 159), (45, 162), (47, 168), (59, 108), (60, 117), (61, 142), (62, 145)] 171 dX7_signKind_1 (by decide) (by decide +kernel) (fa_cons (fun cs1 => ?_) (fa_cons (fun cs1 => ?_) (fa_cons (fun cs1 => ?_) (fa_cons (fun cs1 => ?_) (fa_cons (fun cs1 => ?_) (fa_cons (fun cs1 => ?_) (fa_cons (fun cs1 => ?_) (fa_cons (fun cs1 => ?_) (fa_cons (fun cs1 => ?_) (fa_cons (fun cs1 => ?_) fa_nil)))))))))) (fun co1 => ?_)
  · skip
    refine V.bipush (v := 31) dX7_signKind_111 (by decide) ?_
    refine V.iret dX7_signKind_113 rfl ?_
    exact ⟨by simp_all [sgK], rfl⟩
  · skip
    refine V.bipush (v := 32) dX7_signKind_114 (by decide) ?_
    refine V.iret dX7_signKind_116 rfl ?_
    exact ⟨by simp_all [sgK], rfl⟩
  · skip
    refine V.bipush (v := 41) dX7_signKind_165 (by decide) ?_
    refine V.iret dX7_signKind_167 rfl ?_
    exact ⟨by simp_all [sgK], rfl⟩
  · skip
    refine V.bipush (v := 39) dX7_signKind_159 (by decide) ?_
    refine V.iret dX7_signKind_161 rfl ?_
    exact ⟨by simp_all [sgK], rfl⟩
  · skip
    refine V.bipush (v := 40) dX7_signKind_162 (by decide) ?_
    refine V.iret dX7_signKind_164 rfl ?_
    exact ⟨by simp_all [sgK], rfl⟩
  · skip
    refine V.bipush (v := 42) dX7_signKind_168 (by decide) ?_
    refine V.iret dX7_signKind_170 rfl ?_
    exact ⟨by simp_all [sgK], rfl⟩
  · skip
    refine V.bipush (v := 30) dX7_signKind_108 (by decide) ?_
    refine V.iret dX7_signKind_110 rfl ?_
    exact ⟨by simp_all [sgK], rfl⟩
  · skip
    refine V.iload_n dX7_signKind_117 rfl ?_
    refine V.bipush (v := 61) dX7_signKind_118 (by decide) ?_
    refine V.icmp_ne 128 dX7_signKind_120 (by decide) (fun c120 => ?_) (fun c120 => ?_)
    · skip
      refine V.iload_n dX7_signKind_128 rfl ?_
      refine V.bipush (v := 62) dX7_signKind_129 (by decide) ?_
      refine V.icmp_ne 139 dX7_signKind_131 (by decide) (fun c131 => ?_) (fun c131 => ?_)
      · skip
        refine V.bipush (v := 33) dX7_signKind_139 (by decide) ?_
        refine V.iret dX7_signKind_141 rfl ?_
        exact ⟨by simp_all [sgK], rfl⟩
      · skip
        refine V.bipush (v := 36) dX7_signKind_134 (by decide) ?_
        refine V.goto 141 dX7_signKind_136 (by decide) ?_
        refine V.iret dX7_signKind_141 rfl ?_
        exact ⟨by simp_all [sgK], rfl⟩
    · skip
      refine V.bipush (v := 34) dX7_signKind_123 (by decide) ?_
      refine V.goto 141 dX7_signKind_125 (by decide) ?_
      refine V.iret dX7_signKind_141 rfl ?_
      exact ⟨by simp_all [sgK], rfl⟩
  · skip
    refine V.bipush (v := 35) dX7_signKind_142 (by decide) ?_
    refine V.iret dX7_signKind_144 rfl ?_
    exact ⟨by simp_all [sgK], rfl⟩
  · skip
    refine V.iload_n dX7_signKind_145 rfl ?_
    refine V.bipush (v := 61) dX7_signKind_146 (by decide) ?_
    refine V.icmp_ne 156 dX7_signKind_148 (by decide) (fun c148 => ?_) (fun c148 => ?_)
    · skip
      refine V.bipush (v := 38) dX7_signKind_156 (by decide) ?_
      refine V.iret dX7_signKind_158 rfl ?_
      exact ⟨by simp_all [sgK], rfl⟩
    · skip
      refine V.bipush (v := 37) dX7_signKind_151 (by decide) ?_
      refine V.goto 158 dX7_signKind_153 (by decide) ?_
      refine V.iret dX7_signKind_158 rfl ?_
      exact ⟨by simp_all [sgK], rfl⟩
  · skip
    refine V.bipush (v := (-2)) dX7_signKind_171 (by decide) ?_
    refine V.iret dX7_signKind_173 rfl ?_
    exact ⟨by simp_all [sgK], rfl⟩
set_option maxRecDepth 100000 in
set_option maxHeartbeats 1000000 in
theorem wdK_V {d n0 : Nat} {κ : Kd} (hd : 1 ≤ d) {h : Hp} {x : Int32} : V MX7_wordKind (d, 0, 0, n0, κ) 0 0 h 0 [some (.int (x)), none] [] (Rd h (.int (wdK x 21 0))) := by
  refine V.iconst (v := nI 0) dX7_wordKind_0 (by decide) ?_
  refine V.istore_n dX7_wordKind_1 (by decide) rfl ?_
  suffices hL : ∀ (k i : Nat), i + k = 21 → wdK x k i = wdK x 21 0 → V MX7_wordKind (d, 0, 0, n0, κ) 0 0 h 2 [some (.int (x)), some (.int (nI i))] [] (Rd h (.int (wdK x 21 0))) from hL 21 0 (by omega) rfl
  intro k
  induction k with
  | zero =>
    intro i hik hv
    refine V.iload_n dX7_wordKind_2 rfl ?_
    refine V.getWN nw_X7_66 dX7_wordKind_3 ?_
    refine V.lenW dX7_wordKind_6 ?_
    refine V.icmp_ge 27 dX7_wordKind_7 (by decide) (fun _ => ?_) (fun z => absurd (show nI 21 ≤ nI i from nI_le (by omega) (by omega)) z)
    refine V.bipush (v := (-4)) dX7_wordKind_27 (by decide) ?_
    refine V.iret dX7_wordKind_29 rfl ?_
    exact ⟨by rw [← hv]; rfl, rfl⟩
  | succ k ih =>
    intro i hik hv
    refine V.iload_n dX7_wordKind_2 rfl ?_
    refine V.getWN nw_X7_66 dX7_wordKind_3 ?_
    refine V.lenW dX7_wordKind_6 ?_
    refine V.icmp_ge 27 dX7_wordKind_7 (by decide) (fun z => absurd z (show ¬ nI 21 ≤ nI i from nI_ge (by omega) (by decide))) (fun _ => ?_)
    refine V.getWN nw_X7_66 dX7_wordKind_10 ?_
    refine V.iload_n dX7_wordKind_13 rfl ?_
    refine V.atW dX7_wordKind_14 (vp_in_nI (by omega) (by decide)) ?_
    rw [nI_clamp (by omega)]
    refine V.iload_n dX7_wordKind_15 rfl ?_
    refine V.icmp_ne 21 dX7_wordKind_16 (by decide) (fun c16 => ?_) (fun c16 => ?_)
    · skip
      refine V.iinc (v := 1) dX7_wordKind_21 rfl (by decide) (by decide) rfl ?_
      refine V.goto 2 dX7_wordKind_24 (by decide) ?_
      refine V.weak [some (.int (x)), some (.int (nI (i + 1)))] (by simp [leL, sto1, sto2, k2c, nI_1]) ?_
      exact ih (i + 1) (by omega) (by rw [← hv, wdK, if_neg c16])
    · skip
      refine V.iload_n dX7_wordKind_19 rfl ?_
      refine V.iret dX7_wordKind_20 rfl ?_
      exact ⟨by rw [← hv, wdK, if_pos c16], rfl⟩
set_option maxRecDepth 100000 in
set_option maxHeartbeats 1000000 in
theorem sgA_V {d n0 : Nat} {κ : Kd} (hd : 1 ≤ d) {h : Hp} {a tp n p pl : Nat} {kd vl : Int32} {b : Nat → Int32} (HK : isK h a tp n p kd pl vl) (hb : h tp = some (.inl (0, 700, .inl b))) (hn : n ≤ 700) {q : Nat} (hq2 : q ≤ 1000) : V MX7_signAt (d, 0, 0, n0, κ) 0 0 h 0 [some (.ref a), some (.int (nI q))] [] (Rd h (.int (sgA b n q))) := by
  obtain ⟨s, H, hr, w1, w2, w3, w4, w5⟩ := id HK
  refine V.iload_n dX7_signAt_0 rfl ?_
  refine V.if_lt 21 dX7_signAt_1 (by decide) (fun z => absurd z (nI_pos (by omega))) (fun _ => ?_)
  refine V.iload_n dX7_signAt_4 rfl ?_
  refine V.aload_n dX7_signAt_5 rfl ?_
  refine V.getf okX7 1 fl_X7_21 dX7_signAt_6 (by decide) H.1 rfl ?_
  refine V.icmp_ge 21 dX7_signAt_9 (by decide) (fun c9 => ?_) (fun c9 => ?_)
  · skip
    have z9 : nI n ≤ nI q := by rw [← w1]; exact c9
    have hq : ¬ q < n := fun z => absurd ((nI_leI (by omega) (by omega)).mp z9) (by omega)
    refine V.iconst (v := (-1)) dX7_signAt_21 (by decide) ?_
    refine V.iret dX7_signAt_22 rfl ?_
    exact ⟨by unfold sgA; first | rw [if_pos hq] | rw [if_neg hq], rfl⟩
  · skip
    have hq : q < n := by rcases Nat.lt_or_ge q n with z | z; exact z; exact absurd (by rw [w1]; exact nI_le z (by omega)) c9
    refine V.aload_n dX7_signAt_12 rfl ?_
    refine V.getf (v := .ref (tp)) okX7 0 fl_X7_9 dX7_signAt_13 (by decide) H.1 (congrArg (fun z => some (Value.ref z)) (hr)) ?_
    refine V.iload_n dX7_signAt_16 rfl ?_
    refine V.ialdN dX7_signAt_17 (hb) (rfl) (by omega) (by decide) ?_
    refine V.goto 22 dX7_signAt_18 (by decide) ?_
    refine V.iret dX7_signAt_22 rfl ?_
    exact ⟨by unfold sgA; first | rw [if_pos hq] | rw [if_neg hq], rfl⟩
set_option maxRecDepth 100000 in
set_option maxHeartbeats 1000000 in
theorem wordEnd_V {d n0 : Nat} {κ : Kd} (hd : 2 ≤ d) {h g2 : Hp} {a tp n q k E : Nat} {kd : Int32} {x1 : Option Value} {b : Nat → Int32} (hn : n ≤ 700) (hq : q + k ≤ n) (hE : E = q + k) (HK : isK g2 a tp n (q + k) kd q (pkF b q k)) (htp : tp < a ∨ a + 1 ≤ tp) (hb : g2 tp = some (.inl (0, 700, .inl b))) (hfr : ∀ x : Nat, (x < a ∨ a + 1 ≤ x) → g2 x = h x) : V MX7_stepWord (d, 0, 0, n0, κ) 0 0 g2 87 [some (.ref a), x1] [] (fun v h' => v = none ∧ isK h' a tp n (E) (if 6 < E - q then -2 else wdK (pkF b q (E - q)) 21 0) (q) (pkF b q (E - q)) ∧ ∀ x : Nat, (x < a ∨ a + 1 ≤ x) → h' x = h x) := by
  subst hE
  obtain ⟨s, H, hr, w1, w2, w3, w4, w5⟩ := id HK
  refine V.aload_n dX7_stepWord_87 rfl ?_
  refine V.aload_n dX7_stepWord_88 rfl ?_
  refine V.getf okX7 2 fl_X7_25 dX7_stepWord_89 (by decide) H.1 rfl ?_
  refine V.aload_n dX7_stepWord_92 rfl ?_
  refine V.getf okX7 4 fl_X7_31 dX7_stepWord_93 (by decide) H.1 rfl ?_
  refine V.isub dX7_stepWord_96 ?_
  rw [w2, w4, pk_sub (by omega), show q + k - q = k by omega]
  refine V.bipush (v := nI 6) dX7_stepWord_97 (by decide) ?_
  refine V.icmp_le 107 dX7_stepWord_99 (by decide) (fun c99 => ?_) (fun c99 => ?_)
  · skip
    have hk : ¬ 6 < k := by have := (nI_leI (by omega) (by decide)).mp c99; omega
    refine V.aload_n dX7_stepWord_107 rfl ?_
    refine V.getf okX7 5 fl_X7_60 dX7_stepWord_108 (by decide) H.1 rfl ?_
    rw [w5]
    refine V.cS1 yoX7_wordKind ml_X7_63 st_X7_wordKind dX7_stepWord_111 (Nat.le_of_ble_eq_true rfl) (by omega) ⟨Nat.le_refl _, Nat.le_refl _⟩ rfl (Nat.le_of_ble_eq_true rfl) (wdK_V (by omega)) (V.rdK ?_)
    refine V.putfH okX7 3 fl_X7_38 dX7_stepWord_114 (by decide) rfl H.1 (rfl) (rfl) (Nat.le_of_ble_eq_true rfl) (fun h1 eh1 oh1 => ?_)
    have H := isR.setI C7_ok H 3 _ (fun _ _ => rfl) eh1 oh1
    have hb := (oh1 _ (by omega)).trans hb
    have hfr : ∀ x : Nat, (x < a ∨ a + 1 ≤ x) → h1 x = h x := fun x hb => (oh1 x (by omega)).trans (hfr x hb)
    refine V.vret dX7_stepWord_117 rfl ?_
    exact ⟨rfl, ⟨_, H, hr, w1, w2, by first | exact (if_pos hk).symm | exact (if_neg hk).symm, w4, w5⟩, hfr⟩
  · skip
    have hk : 6 < k := by rcases Nat.lt_or_ge 6 k with z | z; exact z; exact absurd (nI_le z (by decide)) c99
    refine V.bipush (v := (-2)) dX7_stepWord_102 (by decide) ?_
    refine V.goto 114 dX7_stepWord_104 (by decide) ?_
    refine V.putfH okX7 3 fl_X7_38 dX7_stepWord_114 (by decide) rfl H.1 (rfl) (rfl) (Nat.le_of_ble_eq_true rfl) (fun h2 eh2 oh2 => ?_)
    have H := isR.setI C7_ok H 3 _ (fun _ _ => rfl) eh2 oh2
    have hb := (oh2 _ (by omega)).trans hb
    have hfr : ∀ x : Nat, (x < a ∨ a + 1 ≤ x) → h2 x = h x := fun x hb => (oh2 x (by omega)).trans (hfr x hb)
    refine V.vret dX7_stepWord_117 rfl ?_
    exact ⟨rfl, ⟨_, H, hr, w1, w2, by first | exact (if_pos hk).symm | exact (if_neg hk).symm, w4, w5⟩, hfr⟩
set_option maxRecDepth 100000 in
set_option maxHeartbeats 1000000 in
theorem wordLoop_V {d n0 : Nat} {κ : Kd} (hd : 2 ≤ d) {h : Hp} {a tp n q E : Nat} {kd : Int32} {b : Nat → Int32} (hn : n ≤ 700) (htp : tp < a ∨ a + 1 ≤ tp) : ∀ (f k : Nat) (g2 : Hp), q + k + f = n → isK g2 a tp n (q + k) kd q (pkF b q k) → g2 tp = some (.inl (0, 700, .inl b)) → (∀ x : Nat, (x < a ∨ a + 1 ≤ x) → g2 x = h x) → spF letB b f (q + k) = E → V MX7_stepWord (d, 0, 0, n0, κ) 0 0 g2 5 [some (.ref a), none] [] (fun v h' => v = none ∧ isK h' a tp n (E) (if 6 < E - q then -2 else wdK (pkF b q (E - q)) 21 0) (q) (pkF b q (E - q)) ∧ ∀ x : Nat, (x < a ∨ a + 1 ≤ x) → h' x = h x) := by
  intro f
  induction f with
  | zero =>
    intro k g2 hf HK hb hfr hv
    obtain ⟨s, H, hr, w1, w2, w3, w4, w5⟩ := id HK
    refine V.aload_n dX7_stepWord_5 rfl ?_
    refine V.getf okX7 2 fl_X7_25 dX7_stepWord_6 (by decide) H.1 rfl ?_
    refine V.aload_n dX7_stepWord_9 rfl ?_
    refine V.getf okX7 1 fl_X7_21 dX7_stepWord_10 (by decide) H.1 rfl ?_
    refine V.icmp_ge 87 dX7_stepWord_13 (by decide) (fun _ => ?_) (fun z => absurd (by rw [w1, w2]; exact nI_le (by omega) (by omega)) z)
    exact wordEnd_V (by omega) hn (by omega) (by rw [← hv]; rfl) HK htp hb hfr
  | succ f ih =>
    intro k g2 hf HK hb hfr hv
    obtain ⟨s, H, hr, w1, w2, w3, w4, w5⟩ := id HK
    refine V.aload_n dX7_stepWord_5 rfl ?_
    refine V.getf okX7 2 fl_X7_25 dX7_stepWord_6 (by decide) H.1 rfl ?_
    refine V.aload_n dX7_stepWord_9 rfl ?_
    refine V.getf okX7 1 fl_X7_21 dX7_stepWord_10 (by decide) H.1 rfl ?_
    refine V.icmp_ge 87 dX7_stepWord_13 (by decide) (fun z => absurd z (by rw [w1, w2]; exact nI_ge (by omega) (by omega))) (fun _ => ?_)
    refine V.aload_n dX7_stepWord_16 rfl ?_
    refine V.getf (v := .ref (tp)) okX7 0 fl_X7_9 dX7_stepWord_17 (by decide) H.1 (congrArg (fun z => some (Value.ref z)) (hr)) ?_
    refine V.aload_n dX7_stepWord_20 rfl ?_
    refine V.getf okX7 2 fl_X7_25 dX7_stepWord_21 (by decide) H.1 rfl ?_
    refine V.ialdN dX7_stepWord_24 (hb) (w2) (by omega) (by decide) ?_
    refine V.cS1 yoX7_isLetter ml_X7_41 st_X7_isLetter dX7_stepWord_25 (Nat.le_of_ble_eq_true rfl) (by omega) ⟨Nat.le_refl _, Nat.le_refl _⟩ rfl (Nat.le_of_ble_eq_true rfl) (letB_V (by omega)) (V.rdK ?_)
    refine V.if_eq 87 dX7_stepWord_28 (by decide) (fun c28 => ?_) (fun c28 => ?_)
    · skip
      have hE : E = q + k := by rw [← hv, spF, if_neg (by rw [bI_f c28]; decide)]
      exact wordEnd_V (by omega) hn (by omega) hE HK htp hb hfr
    · skip
      have hE : spF letB b f (q + k + 1) = E := by rw [← hv, spF, if_pos (bI_t c28)]
      refine V.iconst (v := nI 5) dX7_stepWord_31 (by decide) ?_
      refine V.aload_n dX7_stepWord_32 rfl ?_
      refine V.getf okX7 2 fl_X7_25 dX7_stepWord_33 (by decide) H.1 rfl ?_
      refine V.aload_n dX7_stepWord_36 rfl ?_
      refine V.getf okX7 4 fl_X7_31 dX7_stepWord_37 (by decide) H.1 rfl ?_
      refine V.isub dX7_stepWord_40 ?_
      refine V.isub dX7_stepWord_41 ?_
      rw [w2, w4, pk_sub (by omega), show q + k - q = k by omega]
      refine V.istore_n dX7_stepWord_42 (by decide) rfl ?_
      refine V.iload_n dX7_stepWord_43 rfl ?_
      refine V.if_lt 74 dX7_stepWord_44 (by decide) (fun c44 => ?_) (fun c44 => ?_)
      · skip
        refine V.aload_n dX7_stepWord_74 rfl ?_
        refine V.dup dX7_stepWord_75 rfl ?_
        refine V.getf okX7 2 fl_X7_25 dX7_stepWord_76 (by decide) H.1 rfl ?_
        refine V.iconst (v := 1) dX7_stepWord_79 (by decide) ?_
        refine V.iadd dX7_stepWord_80 ?_
        refine V.putfH okX7 2 fl_X7_25 dX7_stepWord_81 (by decide) rfl H.1 (rfl) (rfl) (Nat.le_of_ble_eq_true rfl) (fun h1 eh1 oh1 => ?_)
        have H := isR.setI C7_ok H 2 _ (fun _ _ => rfl) eh1 oh1
        have hb := (oh1 _ (by omega)).trans hb
        have hfr : ∀ x : Nat, (x < a ∨ a + 1 ≤ x) → h1 x = h x := fun x hb => (oh1 x (by omega)).trans (hfr x hb)
        refine V.goto 5 dX7_stepWord_84 (by decide) ?_
        refine V.weak [some (.ref a), none] (by simp [leL, sto1, sto2, k2c]) ?_
        exact ih (k + 1) h1 (by omega) ⟨_, H, hr, w1, by show s.1 2 + 1 = _; rw [w2]; exact nI_1 _, w3, w4, by rw [pkF]; first | (rw [if_pos c44]; exact w5) | (rw [if_neg c44, ← w5]; rfl)⟩ hb hfr hE
      · skip
        refine V.aload_n dX7_stepWord_47 rfl ?_
        refine V.dup dX7_stepWord_48 rfl ?_
        refine V.getf okX7 5 fl_X7_60 dX7_stepWord_49 (by decide) H.1 rfl ?_
        refine V.aload_n dX7_stepWord_52 rfl ?_
        refine V.getf (v := .ref (tp)) okX7 0 fl_X7_9 dX7_stepWord_53 (by decide) H.1 (congrArg (fun z => some (Value.ref z)) (hr)) ?_
        refine V.aload_n dX7_stepWord_56 rfl ?_
        refine V.getf okX7 2 fl_X7_25 dX7_stepWord_57 (by decide) H.1 rfl ?_
        refine V.ialdN dX7_stepWord_60 (hb) (w2) (by omega) (by decide) ?_
        refine V.bipush (v := 97) dX7_stepWord_61 (by decide) ?_
        refine V.isub dX7_stepWord_63 ?_
        refine V.iconst (v := 1) dX7_stepWord_64 (by decide) ?_
        refine V.iadd dX7_stepWord_65 ?_
        refine V.iconst (v := 5) dX7_stepWord_66 (by decide) ?_
        refine V.iload_n dX7_stepWord_67 rfl ?_
        refine V.imul dX7_stepWord_68 ?_
        refine V.ishl dX7_stepWord_69 ?_
        refine V.ior dX7_stepWord_70 ?_
        refine V.putfH okX7 5 fl_X7_60 dX7_stepWord_71 (by decide) rfl H.1 (rfl) (rfl) (Nat.le_of_ble_eq_true rfl) (fun h2 eh2 oh2 => ?_)
        have H := isR.setI C7_ok H 5 _ (fun _ _ => rfl) eh2 oh2
        have hb := (oh2 _ (by omega)).trans hb
        have hfr : ∀ x : Nat, (x < a ∨ a + 1 ≤ x) → h2 x = h x := fun x hb => (oh2 x (by omega)).trans (hfr x hb)
        refine V.aload_n dX7_stepWord_74 rfl ?_
        refine V.dup dX7_stepWord_75 rfl ?_
        refine V.getf okX7 2 fl_X7_25 dX7_stepWord_76 (by decide) H.1 rfl ?_
        refine V.iconst (v := 1) dX7_stepWord_79 (by decide) ?_
        refine V.iadd dX7_stepWord_80 ?_
        refine V.putfH okX7 2 fl_X7_25 dX7_stepWord_81 (by decide) rfl H.1 (rfl) (rfl) (Nat.le_of_ble_eq_true rfl) (fun h3 eh3 oh3 => ?_)
        have H := isR.setI C7_ok H 2 _ (fun _ _ => rfl) eh3 oh3
        have hb := (oh3 _ (by omega)).trans hb
        have hfr : ∀ x : Nat, (x < a ∨ a + 1 ≤ x) → h3 x = h x := fun x hb => (oh3 x (by omega)).trans (hfr x hb)
        refine V.goto 5 dX7_stepWord_84 (by decide) ?_
        refine V.weak [some (.ref a), none] (by simp [leL, sto1, sto2, k2c]) ?_
        exact ih (k + 1) h3 (by omega) ⟨_, H, hr, w1, by show s.1 2 + 1 = _; rw [w2]; exact nI_1 _, w3, w4, by rw [pkF]; first | (rw [if_pos c44]; exact w5) | (rw [if_neg c44, ← w5]; rfl)⟩ hb hfr hE
set_option maxRecDepth 100000 in
set_option maxHeartbeats 1000000 in
theorem word_V {d n0 : Nat} {κ : Kd} (hd : 3 ≤ d) {h : Hp} {a tp n q : Nat} {kd vl : Int32} {b : Nat → Int32} (HK : isK h a tp n q kd q vl) (hb : h tp = some (.inl (0, 700, .inl b))) (hn : n ≤ 700) (hq : q ≤ n) (htp : tp < a ∨ a + 1 ≤ tp) : V MX7_stepWord (d, 0, 0, n0, κ) 0 0 h 0 [some (.ref a), none] [] (fun v h' => v = none ∧ isK h' a tp n (spF letB b (n - q) q) (if 6 < spF letB b (n - q) q - q then -2 else wdK (pkF b q (spF letB b (n - q) q - q)) 21 0) (q) (pkF b q (spF letB b (n - q) q - q)) ∧ ∀ x : Nat, (x < a ∨ a + 1 ≤ x) → h' x = h x) := by
  obtain ⟨s, H, hr, w1, w2, w3, w4, w5⟩ := id HK
  have hfr : ∀ x : Nat, (x < a ∨ a + 1 ≤ x) → h x = h x := fun _ _ => rfl
  refine V.aload_n dX7_stepWord_0 rfl ?_
  refine V.iconst (v := 0) dX7_stepWord_1 (by decide) ?_
  refine V.putfH okX7 5 fl_X7_60 dX7_stepWord_2 (by decide) rfl H.1 (rfl) (rfl) (Nat.le_of_ble_eq_true rfl) (fun h1 eh1 oh1 => ?_)
  have H := isR.setI C7_ok H 5 _ (fun _ _ => rfl) eh1 oh1
  have hb := (oh1 _ (by omega)).trans hb
  have hfr : ∀ x : Nat, (x < a ∨ a + 1 ≤ x) → h1 x = h x := fun x hb => (oh1 x (by omega)).trans (hfr x hb)
  exact wordLoop_V (by omega) hn htp (n - q) 0 h1 (by omega) ⟨_, H, hr, w1, w2, w3, w4, rfl⟩ hb hfr rfl
set_option maxRecDepth 100000 in
set_option maxHeartbeats 1000000 in
theorem numLoop_V {d n0 : Nat} {κ : Kd} (hd : 2 ≤ d) {h : Hp} {a tp n q E : Nat} {kd : Int32} {b : Nat → Int32} (hn : n ≤ 700) (htp : tp < a ∨ a + 1 ≤ tp) : ∀ (f k : Nat) (g2 : Hp), q + k + f = n → isK g2 a tp n (q + k) kd q (nuF b q k) → g2 tp = some (.inl (0, 700, .inl b)) → (∀ x : Nat, (x < a ∨ a + 1 ≤ x) → g2 x = h x) → spF digB b f (q + k) = E → V MX7_stepNumber (d, 0, 0, n0, κ) 0 0 g2 5 [some (.ref a)] [] (fun v h' => v = none ∧ isK h' a tp n (E) (-3) (q) (nuF b q (E - q)) ∧ ∀ x : Nat, (x < a ∨ a + 1 ≤ x) → h' x = h x) := by
  intro f
  induction f with
  | zero =>
    intro k g2 hf HK hb hfr hv
    obtain ⟨s, H, hr, w1, w2, w3, w4, w5⟩ := id HK
    refine V.aload_n dX7_stepNumber_5 rfl ?_
    refine V.getf okX7 2 fl_X7_25 dX7_stepNumber_6 (by decide) H.1 rfl ?_
    refine V.aload_n dX7_stepNumber_9 rfl ?_
    refine V.getf okX7 1 fl_X7_21 dX7_stepNumber_10 (by decide) H.1 rfl ?_
    refine V.icmp_ge 73 dX7_stepNumber_13 (by decide) (fun _ => ?_) (fun z => absurd (by rw [w1, w2]; exact nI_le (by omega) (by omega)) z)
    have hE : E = q + k := by rw [← hv]; rfl
    subst hE
    refine V.aload_n dX7_stepNumber_73 rfl ?_
    refine V.bipush (v := (-3)) dX7_stepNumber_74 (by decide) ?_
    refine V.putfH okX7 3 fl_X7_38 dX7_stepNumber_76 (by decide) rfl H.1 (rfl) (rfl) (Nat.le_of_ble_eq_true rfl) (fun h1 eh1 oh1 => ?_)
    have H := isR.setI C7_ok H 3 _ (fun _ _ => rfl) eh1 oh1
    have hb := (oh1 _ (by omega)).trans hb
    have hfr : ∀ x : Nat, (x < a ∨ a + 1 ≤ x) → h1 x = h x := fun x hb => (oh1 x (by omega)).trans (hfr x hb)
    refine V.vret dX7_stepNumber_79 rfl ?_
    exact ⟨rfl, ⟨_, H, hr, w1, w2, rfl, w4, by rw [show q + k - q = k by omega]; exact w5⟩, hfr⟩
  | succ f ih =>
    intro k g2 hf HK hb hfr hv
    obtain ⟨s, H, hr, w1, w2, w3, w4, w5⟩ := id HK
    refine V.aload_n dX7_stepNumber_5 rfl ?_
    refine V.getf okX7 2 fl_X7_25 dX7_stepNumber_6 (by decide) H.1 rfl ?_
    refine V.aload_n dX7_stepNumber_9 rfl ?_
    refine V.getf okX7 1 fl_X7_21 dX7_stepNumber_10 (by decide) H.1 rfl ?_
    refine V.icmp_ge 73 dX7_stepNumber_13 (by decide) (fun z => absurd z (by rw [w1, w2]; exact nI_ge (by omega) (by omega))) (fun _ => ?_)
    refine V.aload_n dX7_stepNumber_16 rfl ?_
    refine V.getf (v := .ref (tp)) okX7 0 fl_X7_9 dX7_stepNumber_17 (by decide) H.1 (congrArg (fun z => some (Value.ref z)) (hr)) ?_
    refine V.aload_n dX7_stepNumber_20 rfl ?_
    refine V.getf okX7 2 fl_X7_25 dX7_stepNumber_21 (by decide) H.1 rfl ?_
    refine V.ialdN dX7_stepNumber_24 (hb) (w2) (by omega) (by decide) ?_
    refine V.cS1 yoX7_isDigit ml_X7_48 st_X7_isDigit dX7_stepNumber_25 (Nat.le_of_ble_eq_true rfl) (by omega) ⟨Nat.le_refl _, Nat.le_refl _⟩ rfl (Nat.le_of_ble_eq_true rfl) (digB_V (by omega)) (V.rdK ?_)
    refine V.if_eq 73 dX7_stepNumber_28 (by decide) (fun c28 => ?_) (fun c28 => ?_)
    · skip
      have hE : E = q + k := by rw [← hv, spF, if_neg (by rw [bI_f c28]; decide)]
      subst hE
      refine V.aload_n dX7_stepNumber_73 rfl ?_
      refine V.bipush (v := (-3)) dX7_stepNumber_74 (by decide) ?_
      refine V.putfH okX7 3 fl_X7_38 dX7_stepNumber_76 (by decide) rfl H.1 (rfl) (rfl) (Nat.le_of_ble_eq_true rfl) (fun h1 eh1 oh1 => ?_)
      have H := isR.setI C7_ok H 3 _ (fun _ _ => rfl) eh1 oh1
      have hb := (oh1 _ (by omega)).trans hb
      have hfr : ∀ x : Nat, (x < a ∨ a + 1 ≤ x) → h1 x = h x := fun x hb => (oh1 x (by omega)).trans (hfr x hb)
      refine V.vret dX7_stepNumber_79 rfl ?_
      exact ⟨rfl, ⟨_, H, hr, w1, w2, rfl, w4, by rw [show q + k - q = k by omega]; exact w5⟩, hfr⟩
    · skip
      have hE : spF digB b f (q + k + 1) = E := by rw [← hv, spF, if_pos (bI_t c28)]
      refine V.aload_n dX7_stepNumber_31 rfl ?_
      refine V.ldc kc_X7_69 dX7_stepNumber_32 ?_
      refine V.aload_n dX7_stepNumber_34 rfl ?_
      refine V.getf okX7 5 fl_X7_60 dX7_stepNumber_35 (by decide) H.1 rfl ?_
      refine V.bipush (v := 10) dX7_stepNumber_38 (by decide) ?_
      refine V.imul dX7_stepNumber_40 ?_
      refine V.aload_n dX7_stepNumber_41 rfl ?_
      refine V.getf (v := .ref (tp)) okX7 0 fl_X7_9 dX7_stepNumber_42 (by decide) H.1 (congrArg (fun z => some (Value.ref z)) (hr)) ?_
      refine V.aload_n dX7_stepNumber_45 rfl ?_
      refine V.getf okX7 2 fl_X7_25 dX7_stepNumber_46 (by decide) H.1 rfl ?_
      refine V.ialdN dX7_stepNumber_49 (hb) (w2) (by omega) (by decide) ?_
      refine V.iadd dX7_stepNumber_50 ?_
      refine V.bipush (v := 48) dX7_stepNumber_51 (by decide) ?_
      refine V.isub dX7_stepNumber_53 ?_
      refine V.mmin ml_X7_15 st_J9_min_7cf53 ini_J9 co_J9_min_7cf53 dX7_stepNumber_54 (by omega) (Nat.le_of_ble_eq_true rfl) ⟨Nat.le_refl _, Nat.le_refl _⟩ ?_
      refine V.putfH okX7 5 fl_X7_60 dX7_stepNumber_57 (by decide) rfl H.1 (rfl) (rfl) (Nat.le_of_ble_eq_true rfl) (fun h2 eh2 oh2 => ?_)
      have H := isR.setI C7_ok H 5 _ (fun _ _ => rfl) eh2 oh2
      have hb := (oh2 _ (by omega)).trans hb
      have hfr : ∀ x : Nat, (x < a ∨ a + 1 ≤ x) → h2 x = h x := fun x hb => (oh2 x (by omega)).trans (hfr x hb)
      refine V.aload_n dX7_stepNumber_60 rfl ?_
      refine V.dup dX7_stepNumber_61 rfl ?_
      refine V.getf okX7 2 fl_X7_25 dX7_stepNumber_62 (by decide) H.1 rfl ?_
      refine V.iconst (v := 1) dX7_stepNumber_65 (by decide) ?_
      refine V.iadd dX7_stepNumber_66 ?_
      refine V.putfH okX7 2 fl_X7_25 dX7_stepNumber_67 (by decide) rfl H.1 (rfl) (rfl) (Nat.le_of_ble_eq_true rfl) (fun h3 eh3 oh3 => ?_)
      have H := isR.setI C7_ok H 2 _ (fun _ _ => rfl) eh3 oh3
      have hb := (oh3 _ (by omega)).trans hb
      have hfr : ∀ x : Nat, (x < a ∨ a + 1 ≤ x) → h3 x = h x := fun x hb => (oh3 x (by omega)).trans (hfr x hb)
      refine V.goto 5 dX7_stepNumber_70 (by decide) ?_
      exact ih (k + 1) h3 (by omega) ⟨_, H, hr, w1, by show s.1 2 + 1 = _; rw [w2]; exact nI_1 _, w3, w4, by rw [nuF, ← w5]; rfl⟩ hb hfr hE
set_option maxRecDepth 100000 in
set_option maxHeartbeats 1000000 in
theorem num_V {d n0 : Nat} {κ : Kd} (hd : 3 ≤ d) {h : Hp} {a tp n q : Nat} {kd vl : Int32} {b : Nat → Int32} (HK : isK h a tp n q kd q vl) (hb : h tp = some (.inl (0, 700, .inl b))) (hn : n ≤ 700) (hq : q ≤ n) (htp : tp < a ∨ a + 1 ≤ tp) : V MX7_stepNumber (d, 0, 0, n0, κ) 0 0 h 0 [some (.ref a)] [] (fun v h' => v = none ∧ isK h' a tp n (spF digB b (n - q) q) (-3) (q) (nuF b q (spF digB b (n - q) q - q)) ∧ ∀ x : Nat, (x < a ∨ a + 1 ≤ x) → h' x = h x) := by
  obtain ⟨s, H, hr, w1, w2, w3, w4, w5⟩ := id HK
  have hfr : ∀ x : Nat, (x < a ∨ a + 1 ≤ x) → h x = h x := fun _ _ => rfl
  refine V.aload_n dX7_stepNumber_0 rfl ?_
  refine V.iconst (v := 0) dX7_stepNumber_1 (by decide) ?_
  refine V.putfH okX7 5 fl_X7_60 dX7_stepNumber_2 (by decide) rfl H.1 (rfl) (rfl) (Nat.le_of_ble_eq_true rfl) (fun h1 eh1 oh1 => ?_)
  have H := isR.setI C7_ok H 5 _ (fun _ _ => rfl) eh1 oh1
  have hb := (oh1 _ (by omega)).trans hb
  have hfr : ∀ x : Nat, (x < a ∨ a + 1 ≤ x) → h1 x = h x := fun x hb => (oh1 x (by omega)).trans (hfr x hb)
  exact numLoop_V (by omega) hn htp (n - q) 0 h1 (by omega) ⟨_, H, hr, w1, w2, w3, w4, rfl⟩ hb hfr rfl
abbrev Tk : Type := Nat × Int32 × Nat × Int32
def isKt (h : Hp) (a tp n : Nat) (q : Tk) : Prop := isK h a tp n q.1 q.2.1 q.2.2.1 q.2.2.2
/-- the TOKEN at p, no blank ahead of it -/
def stepK (b : Nat → Int32) (n p : Nat) (vl : Int32) : Tk :=
  if n ≤ p then (p, -1, p, vl) else
  if letB (b p) = true then (spF letB b (n - p) p, if 6 < spF letB b (n - p) p - p then -2 else wdK (pkF b p (spF letB b (n - p) p - p)) 21 0, p, pkF b p (spF letB b (n - p) p - p)) else
  if digB (b p) = true then (spF digB b (n - p) p, -3, p, nuF b p (spF digB b (n - p) p - p)) else
  (p + if twoB (sgK (b p) (sgA b n (p + 1))) = true then 2 else 1, sgK (b p) (sgA b n (p + 1)), p, vl)
def tokN (b : Nat → Int32) (n : Nat) (q : Tk) : Tk := stepK b n (spF blkB b (n - q.1) q.1) q.2.2.2
set_option maxRecDepth 100000 in
set_option maxHeartbeats 1000000 in
theorem stepEnd_V {d n0 : Nat} {κ : Kd} (hd : 4 ≤ d) {h g2 : Hp} {a tp n p pl : Nat} {kd vl : Int32} {b : Nat → Int32} (hn : n ≤ 700) (hp : p ≤ n) (hbb : ∀ k, k < n → ¬ b k = -1) (HK : isK g2 a tp n p kd pl vl) (htp : tp < a ∨ a + 1 ≤ tp) (hb : g2 tp = some (.inl (0, 700, .inl b))) (hfr : ∀ x : Nat, (x < a ∨ a + 1 ≤ x) → g2 x = h x) : V MX7_step (d, 0, 0, n0, κ) 0 0 g2 52 [some (.ref a), none] [] (fun v h' => v = none ∧ isKt h' a tp n (stepK b n p vl) ∧ ∀ x : Nat, (x < a ∨ a + 1 ≤ x) → h' x = h x) := by
  obtain ⟨s, H, hr, w1, w2, w3, w4, w5⟩ := id HK
  refine V.aload_n dX7_step_52 rfl ?_
  refine V.aload_n dX7_step_53 rfl ?_
  refine V.getf okX7 2 fl_X7_25 dX7_step_54 (by decide) H.1 rfl ?_
  refine V.putfH okX7 4 fl_X7_31 dX7_step_57 (by decide) rfl H.1 (rfl) (rfl) (Nat.le_of_ble_eq_true rfl) (fun h1 eh1 oh1 => ?_)
  have H := isR.setI C7_ok H 4 _ (fun _ _ => rfl) eh1 oh1
  have hb := (oh1 _ (by omega)).trans hb
  have hfr : ∀ x : Nat, (x < a ∨ a + 1 ≤ x) → h1 x = h x := fun x hb => (oh1 x (by omega)).trans (hfr x hb)
  refine V.aload_n dX7_step_60 rfl ?_
  refine V.aload_n dX7_step_61 rfl ?_
  refine V.getf okX7 2 fl_X7_25 dX7_step_62 (by decide) H.1 rfl ?_
  refine V.eqi (y := nI p) w2 ?_
  refine V.cV1 (ci := 7) yoX7_signAt ml_X7_34 im_X7_signAt se_X7_signAt dX7_step_65 rfl H.1 (Nat.le_of_ble_eq_true rfl) (by omega) ⟨Nat.le_refl _, Nat.le_refl _⟩ rfl (Nat.le_of_ble_eq_true rfl) (sgA_V (by omega) ⟨_, H, hr, w1, w2, w3, w2, w5⟩ hb hn (by omega)) (V.rdK ?_)
  refine V.istore_n dX7_step_68 (by decide) rfl ?_
  refine V.iload_n dX7_step_69 rfl ?_
  refine V.iconst (v := (-1)) dX7_step_70 (by decide) ?_
  refine V.icmp_ne 82 dX7_step_71 (by decide) (fun c71 => ?_) (fun c71 => ?_)
  · skip
    have hpn : p < n := by rcases Nat.lt_or_ge p n with z | z; exact z; exact absurd (by unfold sgA; rw [if_neg (by omega)]) c71
    have hsg : sgA b n p = b p := by unfold sgA; rw [if_pos hpn]
    rw [hsg] at *
    refine V.iload_n dX7_step_82 rfl ?_
    refine V.cS1 yoX7_isLetter ml_X7_41 st_X7_isLetter dX7_step_83 (Nat.le_of_ble_eq_true rfl) (by omega) ⟨Nat.le_refl _, Nat.le_refl _⟩ rfl (Nat.le_of_ble_eq_true rfl) (letB_V (by omega)) (V.rdK ?_)
    refine V.if_eq 96 dX7_step_86 (by decide) (fun c86 => ?_) (fun c86 => ?_)
    · skip
      refine V.iload_n dX7_step_96 rfl ?_
      refine V.cS1 yoX7_isDigit ml_X7_48 st_X7_isDigit dX7_step_97 (Nat.le_of_ble_eq_true rfl) (by omega) ⟨Nat.le_refl _, Nat.le_refl _⟩ rfl (Nat.le_of_ble_eq_true rfl) (digB_V (by omega)) (V.rdK ?_)
      refine V.if_eq 110 dX7_step_100 (by decide) (fun c100 => ?_) (fun c100 => ?_)
      · skip
        refine V.aload_n dX7_step_110 rfl ?_
        refine V.iload_n dX7_step_111 rfl ?_
        refine V.aload_n dX7_step_112 rfl ?_
        refine V.aload_n dX7_step_113 rfl ?_
        refine V.getf okX7 2 fl_X7_25 dX7_step_114 (by decide) H.1 rfl ?_
        refine V.iconst (v := 1) dX7_step_117 (by decide) ?_
        refine V.iadd dX7_step_118 ?_
        refine V.eqi (y := nI (p + 1)) ((congrArg (fun z => z + 1) w2).trans (nI_1 p)) ?_
        refine V.cV1 (ci := 7) yoX7_signAt ml_X7_34 im_X7_signAt se_X7_signAt dX7_step_119 rfl H.1 (Nat.le_of_ble_eq_true rfl) (by omega) ⟨Nat.le_refl _, Nat.le_refl _⟩ rfl (Nat.le_of_ble_eq_true rfl) (sgA_V (by omega) ⟨_, H, hr, w1, w2, w3, w2, w5⟩ hb hn (by omega)) (V.rdK ?_)
        refine V.cS2 yoX7_signKind ml_X7_54 st_X7_signKind dX7_step_122 (Nat.le_of_ble_eq_true rfl) (by omega) ⟨Nat.le_refl _, Nat.le_refl _⟩ rfl (Nat.le_of_ble_eq_true rfl) (sgK_V (by omega)) (V.rdK ?_)
        refine V.putfH okX7 3 fl_X7_38 dX7_step_125 (by decide) rfl H.1 (rfl) (rfl) (Nat.le_of_ble_eq_true rfl) (fun h2 eh2 oh2 => ?_)
        have H := isR.setI C7_ok H 3 _ (fun _ _ => rfl) eh2 oh2
        have hb := (oh2 _ (by omega)).trans hb
        have hfr : ∀ x : Nat, (x < a ∨ a + 1 ≤ x) → h2 x = h x := fun x hb => (oh2 x (by omega)).trans (hfr x hb)
        refine V.aload_n dX7_step_128 rfl ?_
        refine V.dup dX7_step_129 rfl ?_
        refine V.getf okX7 2 fl_X7_25 dX7_step_130 (by decide) H.1 rfl ?_
        refine V.aload_n dX7_step_133 rfl ?_
        refine V.getf okX7 3 fl_X7_38 dX7_step_134 (by decide) H.1 rfl ?_
        refine V.cS1 yoX7_isTwoSigns ml_X7_57 st_X7_isTwoSigns dX7_step_137 (Nat.le_of_ble_eq_true rfl) (by omega) ⟨Nat.le_refl _, Nat.le_refl _⟩ rfl (Nat.le_of_ble_eq_true rfl) (twoB_V (by omega)) (V.rdK ?_)
        refine V.if_eq 147 dX7_step_140 (by decide) (fun c140 => ?_) (fun c140 => ?_)
        · skip
          have cT : ¬ twoB (sgK (b p) (sgA b n (p + 1))) = true := fun z => absurd ((bI_f c140).symm.trans z) (by decide)
          refine V.iconst (v := 1) dX7_step_147 (by decide) ?_
          refine V.iadd dX7_step_148 ?_
          refine V.putfH okX7 2 fl_X7_25 dX7_step_149 (by decide) rfl H.1 (rfl) (rfl) (Nat.le_of_ble_eq_true rfl) (fun h3 eh3 oh3 => ?_)
          have H := isR.setI C7_ok H 2 _ (fun _ _ => rfl) eh3 oh3
          have hb := (oh3 _ (by omega)).trans hb
          have hfr : ∀ x : Nat, (x < a ∨ a + 1 ≤ x) → h3 x = h x := fun x hb => (oh3 x (by omega)).trans (hfr x hb)
          refine V.vret dX7_step_152 rfl ?_
          exact ⟨rfl, by unfold stepK; rw [if_neg (by omega), if_neg (by rw [bI_f c86]; decide), if_neg (by rw [bI_f c100]; decide)]; exact ⟨_, H, hr, w1, by rw [if_neg cT]; exact (congrArg (fun z => z + 1) w2).trans (nI_1 p), rfl, w2, w5⟩, hfr⟩
        · skip
          have cT : twoB (sgK (b p) (sgA b n (p + 1))) = true := bI_t c140
          refine V.iconst (v := 2) dX7_step_143 (by decide) ?_
          refine V.goto 148 dX7_step_144 (by decide) ?_
          refine V.iadd dX7_step_148 ?_
          refine V.putfH okX7 2 fl_X7_25 dX7_step_149 (by decide) rfl H.1 (rfl) (rfl) (Nat.le_of_ble_eq_true rfl) (fun h4 eh4 oh4 => ?_)
          have H := isR.setI C7_ok H 2 _ (fun _ _ => rfl) eh4 oh4
          have hb := (oh4 _ (by omega)).trans hb
          have hfr : ∀ x : Nat, (x < a ∨ a + 1 ≤ x) → h4 x = h x := fun x hb => (oh4 x (by omega)).trans (hfr x hb)
          refine V.vret dX7_step_152 rfl ?_
          exact ⟨rfl, by unfold stepK; rw [if_neg (by omega), if_neg (by rw [bI_f c86]; decide), if_neg (by rw [bI_f c100]; decide)]; exact ⟨_, H, hr, w1, by rw [if_pos cT]; exact (congrArg (fun z => z + 2) w2).trans (nI_add p 2), rfl, w2, w5⟩, hfr⟩
      · skip
        refine V.aload_n dX7_step_103 rfl ?_
        refine V.cV0 (ci := 7) yoX7_stepNumber ml_X7_51 im_X7_stepNumber se_X7_stepNumber dX7_step_104 rfl H.1 (Nat.le_of_ble_eq_true rfl) (by omega) ⟨Nat.le_refl _, Nat.le_refl _⟩ rfl (Nat.le_of_ble_eq_true rfl) (num_V (by omega) ⟨_, H, hr, w1, w2, w3, w2, w5⟩ hb hn hp htp) ?_
        rintro _ h5 ⟨rfl, HK, oh5⟩
        obtain ⟨s9, H, hr, w1, w2, w3, w4, w5⟩ := id HK
        have hb := (oh5 _ (by omega)).trans hb
        have hfr : ∀ x : Nat, (x < a ∨ a + 1 ≤ x) → h5 x = h x := fun x hb => (oh5 x (by omega)).trans (hfr x hb)
        refine V.goto 152 dX7_step_107 (by decide) ?_
        refine V.vret dX7_step_152 rfl ?_
        exact ⟨rfl, by unfold stepK; rw [if_neg (by omega), if_neg (by rw [bI_f c86]; decide), if_pos (bI_t c100)]; exact HK, hfr⟩
    · skip
      refine V.aload_n dX7_step_89 rfl ?_
      refine V.cV0 (ci := 7) yoX7_stepWord ml_X7_45 im_X7_stepWord se_X7_stepWord dX7_step_90 rfl H.1 (Nat.le_of_ble_eq_true rfl) (by omega) ⟨Nat.le_refl _, Nat.le_refl _⟩ rfl (Nat.le_of_ble_eq_true rfl) (word_V (by omega) ⟨_, H, hr, w1, w2, w3, w2, w5⟩ hb hn hp htp) ?_
      rintro _ h6 ⟨rfl, HK, oh6⟩
      obtain ⟨s9, H, hr, w1, w2, w3, w4, w5⟩ := id HK
      have hb := (oh6 _ (by omega)).trans hb
      have hfr : ∀ x : Nat, (x < a ∨ a + 1 ≤ x) → h6 x = h x := fun x hb => (oh6 x (by omega)).trans (hfr x hb)
      refine V.goto 152 dX7_step_93 (by decide) ?_
      refine V.vret dX7_step_152 rfl ?_
      exact ⟨rfl, by unfold stepK; rw [if_neg (by omega), if_pos (bI_t c86)]; exact HK, hfr⟩
  · skip
    have hpn : n ≤ p := by rcases Nat.lt_or_ge p n with z | z; exact absurd (by rw [← c71]; unfold sgA; rw [if_pos z]) (hbb p z); exact z
    refine V.aload_n dX7_step_74 rfl ?_
    refine V.iconst (v := (-1)) dX7_step_75 (by decide) ?_
    refine V.putfH okX7 3 fl_X7_38 dX7_step_76 (by decide) rfl H.1 (rfl) (rfl) (Nat.le_of_ble_eq_true rfl) (fun h7 eh7 oh7 => ?_)
    have H := isR.setI C7_ok H 3 _ (fun _ _ => rfl) eh7 oh7
    have hb := (oh7 _ (by omega)).trans hb
    have hfr : ∀ x : Nat, (x < a ∨ a + 1 ≤ x) → h7 x = h x := fun x hb => (oh7 x (by omega)).trans (hfr x hb)
    refine V.goto 152 dX7_step_79 (by decide) ?_
    refine V.vret dX7_step_152 rfl ?_
    exact ⟨rfl, by unfold stepK; rw [if_pos hpn]; exact ⟨_, H, hr, w1, w2, rfl, w2, w5⟩, hfr⟩
set_option maxRecDepth 100000 in
set_option maxHeartbeats 1000000 in
theorem stepLoop_V {d n0 : Nat} {κ : Kd} (hd : 4 ≤ d) {h : Hp} {a tp n pl E : Nat} {kd vl : Int32} {b : Nat → Int32} (hn : n ≤ 700) (hbb : ∀ k, k < n → ¬ b k = -1) (htp : tp < a ∨ a + 1 ≤ tp) : ∀ (f p : Nat) (g2 : Hp), p + f = n → isK g2 a tp n p kd pl vl → g2 tp = some (.inl (0, 700, .inl b)) → (∀ x : Nat, (x < a ∨ a + 1 ≤ x) → g2 x = h x) → spF blkB b f p = E → V MX7_step (d, 0, 0, n0, κ) 0 0 g2 0 [some (.ref a), none] [] (fun v h' => v = none ∧ isKt h' a tp n (stepK b n E vl) ∧ ∀ x : Nat, (x < a ∨ a + 1 ≤ x) → h' x = h x) := by
  intro f
  induction f with
  | zero =>
    intro p g2 hf HK hb hfr hv
    obtain ⟨s, H, hr, w1, w2, w3, w4, w5⟩ := id HK
    refine V.aload_n dX7_step_0 rfl ?_
    refine V.getf okX7 2 fl_X7_25 dX7_step_1 (by decide) H.1 rfl ?_
    refine V.aload_n dX7_step_4 rfl ?_
    refine V.getf okX7 1 fl_X7_21 dX7_step_5 (by decide) H.1 rfl ?_
    refine V.icmp_ge 52 dX7_step_8 (by decide) (fun _ => ?_) (fun z => absurd (by rw [w1, w2]; exact nI_le (by omega) (by omega)) z)
    have hE : E = p := by rw [← hv]; rfl
    rw [hE]
    exact stepEnd_V (by omega) hn (by omega) hbb HK htp hb hfr
  | succ f ih =>
    intro p g2 hf HK hb hfr hv
    obtain ⟨s, H, hr, w1, w2, w3, w4, w5⟩ := id HK
    refine V.aload_n dX7_step_0 rfl ?_
    refine V.getf okX7 2 fl_X7_25 dX7_step_1 (by decide) H.1 rfl ?_
    refine V.aload_n dX7_step_4 rfl ?_
    refine V.getf okX7 1 fl_X7_21 dX7_step_5 (by decide) H.1 rfl ?_
    refine V.icmp_ge 52 dX7_step_8 (by decide) (fun z => absurd z (by rw [w1, w2]; exact nI_ge (by omega) (by omega))) (fun _ => ?_)
    refine V.aload_n dX7_step_11 rfl ?_
    refine V.getf (v := .ref (tp)) okX7 0 fl_X7_9 dX7_step_12 (by decide) H.1 (congrArg (fun z => some (Value.ref z)) (hr)) ?_
    refine V.aload_n dX7_step_15 rfl ?_
    refine V.getf okX7 2 fl_X7_25 dX7_step_16 (by decide) H.1 rfl ?_
    refine V.ialdN dX7_step_19 (hb) (w2) (by omega) (by decide) ?_
    refine V.bipush (v := 10) dX7_step_20 (by decide) ?_
    refine V.icmp_eq 39 dX7_step_22 (by decide) (fun c22 => ?_) (fun c22 => ?_)
    · skip
      have hE : spF blkB b f (p + 1) = E := by rw [← hv, spF, if_pos (by unfold blkB; simp [c22])]
      refine V.aload_n dX7_step_39 rfl ?_
      refine V.dup dX7_step_40 rfl ?_
      refine V.getf okX7 2 fl_X7_25 dX7_step_41 (by decide) H.1 rfl ?_
      refine V.iconst (v := 1) dX7_step_44 (by decide) ?_
      refine V.iadd dX7_step_45 ?_
      refine V.putfH okX7 2 fl_X7_25 dX7_step_46 (by decide) rfl H.1 (rfl) (rfl) (Nat.le_of_ble_eq_true rfl) (fun h1 eh1 oh1 => ?_)
      have H := isR.setI C7_ok H 2 _ (fun _ _ => rfl) eh1 oh1
      have hb := (oh1 _ (by omega)).trans hb
      have hfr : ∀ x : Nat, (x < a ∨ a + 1 ≤ x) → h1 x = h x := fun x hb => (oh1 x (by omega)).trans (hfr x hb)
      refine V.goto 0 dX7_step_49 (by decide) ?_
      exact ih (p + 1) h1 (by omega) ⟨_, H, hr, w1, by show s.1 2 + 1 = _; rw [w2]; exact nI_1 _, w3, w4, w5⟩ hb hfr hE
    · skip
      refine V.aload_n dX7_step_25 rfl ?_
      refine V.getf (v := .ref (tp)) okX7 0 fl_X7_9 dX7_step_26 (by decide) H.1 (congrArg (fun z => some (Value.ref z)) (hr)) ?_
      refine V.aload_n dX7_step_29 rfl ?_
      refine V.getf okX7 2 fl_X7_25 dX7_step_30 (by decide) H.1 rfl ?_
      refine V.ialdN dX7_step_33 (hb) (w2) (by omega) (by decide) ?_
      refine V.bipush (v := 32) dX7_step_34 (by decide) ?_
      refine V.icmp_ne 52 dX7_step_36 (by decide) (fun c36 => ?_) (fun c36 => ?_)
      · skip
        have hE : E = p := by rw [← hv, spF, if_neg (by unfold blkB; simp [c22, c36])]
        rw [hE]
        exact stepEnd_V (by omega) hn (by omega) hbb HK htp hb hfr
      · skip
        have hE : spF blkB b f (p + 1) = E := by rw [← hv, spF, if_pos (by unfold blkB; simp [c36])]
        refine V.aload_n dX7_step_39 rfl ?_
        refine V.dup dX7_step_40 rfl ?_
        refine V.getf okX7 2 fl_X7_25 dX7_step_41 (by decide) H.1 rfl ?_
        refine V.iconst (v := 1) dX7_step_44 (by decide) ?_
        refine V.iadd dX7_step_45 ?_
        refine V.putfH okX7 2 fl_X7_25 dX7_step_46 (by decide) rfl H.1 (rfl) (rfl) (Nat.le_of_ble_eq_true rfl) (fun h2 eh2 oh2 => ?_)
        have H := isR.setI C7_ok H 2 _ (fun _ _ => rfl) eh2 oh2
        have hb := (oh2 _ (by omega)).trans hb
        have hfr : ∀ x : Nat, (x < a ∨ a + 1 ≤ x) → h2 x = h x := fun x hb => (oh2 x (by omega)).trans (hfr x hb)
        refine V.goto 0 dX7_step_49 (by decide) ?_
        exact ih (p + 1) h2 (by omega) ⟨_, H, hr, w1, by show s.1 2 + 1 = _; rw [w2]; exact nI_1 _, w3, w4, w5⟩ hb hfr hE
theorem step_V {d n0 : Nat} {κ : Kd} (hd : 4 ≤ d) {h : Hp} {a tp n : Nat} {q : Tk} {b : Nat → Int32} (HK : isKt h a tp n q) (hb : h tp = some (.inl (0, 700, .inl b))) (hn : n ≤ 700) (hp : q.1 ≤ n) (hbb : ∀ k, k < n → ¬ b k = -1) (htp : tp < a ∨ a + 1 ≤ tp) : V MX7_step (d, 0, 0, n0, κ) 0 0 h 0 [some (.ref a), none] [] (fun v h' => v = none ∧ isKt h' a tp n (tokN b n q) ∧ ∀ x : Nat, (x < a ∨ a + 1 ≤ x) → h' x = h x) :=
  stepLoop_V hd hn hbb htp (n - q.1) q.1 h (by omega) HK hb (fun _ _ => rfl) rfl
set_option maxRecDepth 100000 in
set_option maxHeartbeats 1000000 in
theorem begin_K {d n0 : Nat} {κ : Kd} (hd : 5 ≤ d) {h : Hp} {a tp n pl : Nat} {s : St} {b : Nat → Int32} (H : isR C7 h a s) (hpl : s.1 4 = nI pl) (hb : h tp = some (.inl (0, 700, .inl b))) (hn : n ≤ 700) (hbb : ∀ k, k < n → ¬ b k = -1) (htp : tp < a ∨ a + 1 ≤ tp) : V MX7_begin (d, 0, 0, n0, κ) 0 0 h 0 [some (.ref a), some (.ref (tp)), some (.int (nI n))] [] (fun v h' => v = none ∧ isKt h' a tp n (tokN b n (0, s.1 3, pl, s.1 5)) ∧ ∀ x : Nat, (x < a ∨ a + 1 ≤ x) → h' x = h x) := by
  have hfr : ∀ x : Nat, (x < a ∨ a + 1 ≤ x) → h x = h x := fun _ _ => rfl
  refine V.aload_n dX7_begin_0 rfl ?_
  refine V.aload_n dX7_begin_1 rfl ?_
  refine V.putfH okX7 0 fl_X7_9 dX7_begin_2 (by decide) rfl H.1 (rfl) (rfl) (Nat.le_of_ble_eq_true rfl) (fun h1 eh1 oh1 => ?_)
  have H := isR.setP C7_ok H 0 tp (fun _ _ => rfl) eh1 oh1
  have hb := (oh1 _ (by omega)).trans hb
  have hfr : ∀ x : Nat, (x < a ∨ a + 1 ≤ x) → h1 x = h x := fun x hb => (oh1 x (by omega)).trans (hfr x hb)
  refine V.aload_n dX7_begin_5 rfl ?_
  refine V.iload_n dX7_begin_6 rfl ?_
  refine V.aload_n dX7_begin_7 rfl ?_
  refine V.alen (v := nI 700) dX7_begin_8 hb (by decide) rfl ?_
  refine V.mmin ml_X7_15 st_J9_min_7cf53 ini_J9 co_J9_min_7cf53 dX7_begin_9 (by omega) (Nat.le_of_ble_eq_true rfl) ⟨Nat.le_refl _, Nat.le_refl _⟩ ?_
  refine V.eqi (y := nI n) (if_neg (nI_nlt hn (by decide))) ?_
  refine V.putfH okX7 1 fl_X7_21 dX7_begin_12 (by decide) rfl H.1 (rfl) (rfl) (Nat.le_of_ble_eq_true rfl) (fun h2 eh2 oh2 => ?_)
  have H := isR.setI C7_ok H 1 _ (fun _ _ => rfl) eh2 oh2
  have hb := (oh2 _ (by omega)).trans hb
  have hfr : ∀ x : Nat, (x < a ∨ a + 1 ≤ x) → h2 x = h x := fun x hb => (oh2 x (by omega)).trans (hfr x hb)
  refine V.aload_n dX7_begin_15 rfl ?_
  refine V.iconst (v := nI 0) dX7_begin_16 (by decide) ?_
  refine V.putfH okX7 2 fl_X7_25 dX7_begin_17 (by decide) rfl H.1 (rfl) (rfl) (Nat.le_of_ble_eq_true rfl) (fun h3 eh3 oh3 => ?_)
  have H := isR.setI C7_ok H 2 _ (fun _ _ => rfl) eh3 oh3
  have hb := (oh3 _ (by omega)).trans hb
  have hfr : ∀ x : Nat, (x < a ∨ a + 1 ≤ x) → h3 x = h x := fun x hb => (oh3 x (by omega)).trans (hfr x hb)
  refine V.aload_n dX7_begin_20 rfl ?_
  refine V.cV0 (ci := 7) yoX7_step ml_X7_28 im_X7_step se_X7_step dX7_begin_21 rfl H.1 (Nat.le_of_ble_eq_true rfl) (by omega) ⟨Nat.le_refl _, Nat.le_refl _⟩ rfl (Nat.le_of_ble_eq_true rfl) (step_V (q := (0, s.1 3, pl, s.1 5)) (by omega) ⟨_, H, rfl, rfl, rfl, rfl, hpl, rfl⟩ hb hn (by omega) hbb htp) ?_
  rintro _ h4 ⟨rfl, HK, oh4⟩
  have hb := (oh4 _ (by omega)).trans hb
  have hfr : ∀ x : Nat, (x < a ∨ a + 1 ≤ x) → h4 x = h x := fun x hb => (oh4 x (by omega)).trans (hfr x hb)
  refine V.vret dX7_begin_24 rfl ?_
  exact ⟨rfl, HK, hfr⟩
