/-! Reading by levels: how the KNOTS grow (grX), what a level's reading leaves (PR), how levels join -/
def wfX (ks : Nat → Int32) : Nat → Nat → Nat → Nat → Prop
  | 0, _, d, e => d = e
  | n + 1, k, d, e => takesN (ks k) ≤ d ∧ wfX ks n (k + 1) (d + 1 - takesN (ks k)) e
theorem wfX_app {ks : Nat → Int32} : ∀ n k d e m f, wfX ks n k d e → wfX ks m (k + n) e f → wfX ks (n + m) k d f := by
  intro n
  induction n with
  | zero =>
    intro k d e m f h1 h2
    have h3 : d = e := h1
    subst h3
    rw [Nat.zero_add]
    exact h2
  | succ n ih =>
    intro k d e m f h1 h2
    rw [show n + 1 + m = (n + m) + 1 by omega]
    exact ⟨h1.1, ih (k + 1) _ e m f h1.2 (by rw [show k + 1 + n = k + (n + 1) by omega]; exact h2)⟩
theorem wfX_ext {ks kt : Nat → Int32} : ∀ n k d e, (∀ i, k ≤ i → i < k + n → kt i = ks i) → wfX ks n k d e → wfX kt n k d e := by
  intro n
  induction n with
  | zero => intro k d e _ h; exact h
  | succ n ih =>
    intro k d e h1 h2
    unfold wfX
    rw [h1 k (by omega) (by omega)]
    exact ⟨h2.1, ih (k + 1) _ e (fun i a c => h1 i (by omega) (by omega)) h2.2⟩
theorem wfX_E {ks : Nat → Int32} : ∀ n k d, wfX ks n k d 1 → wfE ks n k d := by
  intro n
  induction n with
  | zero => intro k d h; exact h
  | succ n ih => intro k d h; exact ⟨h.1, ih (k + 1) _ h.2⟩
def grX (L L' : St) (e : Nat) : Prop := nat (L.1 1) ≤ nat (L'.1 1) ∧ L'.2.1 4 = L.2.1 4 ∧ L'.2.1 5 = L.2.1 5 ∧ L'.2.2 = L.2.2 ∧ (∀ k, k < nat (L.1 1) → L'.2.1 2 k = L.2.1 2 k ∧ L'.2.1 3 k = L.2.1 3 k) ∧ ∀ d, wfX (L'.2.1 2) (nat (L'.1 1) - nat (L.1 1)) (nat (L.1 1)) d (d + e)
theorem grX.rf {L : St} : grX L L 0 := ⟨Nat.le_refl _, rfl, rfl, rfl, fun _ _ => ⟨rfl, rfl⟩, fun d => by rw [Nat.sub_self]; rfl⟩
theorem grX.tr {L L1 L2 : St} {e f : Nat} (h : grX L L1 e) (k : grX L1 L2 f) : grX L L2 (e + f) := by
  obtain ⟨h1, h2, h3, h4, h5, h6⟩ := h
  obtain ⟨k1, k2, k3, k4, k5, k6⟩ := k
  refine ⟨by omega, k2.trans h2, k3.trans h3, k4.trans h4, fun i hi => ⟨(k5 i (by omega)).1.trans (h5 i hi).1, (k5 i (by omega)).2.trans (h5 i hi).2⟩, fun d => ?_⟩
  rw [show nat (L2.1 1) - nat (L.1 1) = (nat (L1.1 1) - nat (L.1 1)) + (nat (L2.1 1) - nat (L1.1 1)) by omega]
  refine wfX_app _ _ d (d + e) _ _ (wfX_ext _ _ _ _ (fun i a c => (k5 i (by omega)).1) (h6 d)) ?_
  rw [show nat (L.1 1) + (nat (L1.1 1) - nat (L.1 1)) = nat (L1.1 1) by omega, ← Nat.add_assoc]
  exact k6 (d + e)
theorem grX.kn {L L' : St} {e : Nat} (h : grX L L' e) : grX L (lKnot L') e := h
theorem grX.kn2 {L L' : St} {e : Nat} (h : grX (lKnot L) L' e) : grX L L' e := h
theorem grX.put {L L' : St} {k v : Int32} {e t : Nat} (h : grX L L' (e + t)) (ht : takesN k = t) (hb : nat (L'.1 1) < 64) : grX L (pl L' k v) (e + 1) := by
  obtain ⟨h1, h2, h3, h4, h5, h6⟩ := h
  have hp : nat ((pl L' k v).1 1) = nat (L'.1 1) + 1 := by rw [pl_1]; exact nI_clamp (by omega)
  have r2 : ∀ i, (pl L' k v).2.1 2 i = if i = nat (L'.1 1) then k else L'.2.1 2 i := fun i => rfl
  have r3 : ∀ i, (pl L' k v).2.1 3 i = if i = nat (L'.1 1) then v else L'.2.1 3 i := fun i => rfl
  refine ⟨by omega, h2, h3, h4, fun i hi => ⟨by rw [r2, if_neg (by omega)]; exact (h5 i hi).1, by rw [r3, if_neg (by omega)]; exact (h5 i hi).2⟩, fun d => ?_⟩
  rw [hp, show nat (L'.1 1) + 1 - nat (L.1 1) = (nat (L'.1 1) - nat (L.1 1)) + 1 by omega]
  refine wfX_app _ _ d (d + (e + t)) _ _ (wfX_ext _ _ _ _ (fun i a c => by rw [r2, if_neg (by omega)]) (h6 d)) ?_
  rw [show nat (L.1 1) + (nat (L'.1 1) - nat (L.1 1)) = nat (L'.1 1) by omega]
  unfold wfX
  rw [r2, if_pos rfl, ht]
  exact ⟨by omega, by show d + (e + t) + 1 - t = d + (e + 1); omega⟩
theorem takes_leaf {q : Tk} (h : leafB q) : takesN q.2.1 = 0 := by
  unfold takesN isBin
  have h3 : ¬ q.2.1 = 20 := by
    rcases h with h | h
    · rw [h.1]; decide
    · intro z; rw [z] at h; exact absurd h.2 (by decide)
  rw [if_neg h3, if_neg]
  rcases h with h | h
  · rw [h.1]; decide
  · have a1 : ¬ q.2.1 = 18 := fun z => by rw [z] at h; exact absurd h.2 (by decide)
    have a2 : ¬ q.2.1 = 19 := fun z => by rw [z] at h; exact absurd h.2 (by decide)
    have a3 : q.2.1 < 33 := Int32.lt_of_le_of_lt h.2 (by decide)
    simp [a1, a2, a3]
theorem takes_bin {k : Int32} (h : isBin k = true) : takesN k = 2 := by
  have h20 : ¬ k = 20 := fun z => by rw [z] at h; exact absurd h (by decide)
  unfold takesN
  rw [if_neg h20, if_pos h]
theorem bin_31 {k : Int32} (h : isBin k = true) : ¬ k = 31 ∧ ¬ k = -1 := ⟨fun z => by rw [z] at h; exact absurd h (by decide), fun z => by rw [z] at h; exact absurd h (by decide)⟩
theorem lvl_bin {k : Int32} (h : isBin k = true) : ¬ lvl k < 1 := lvl_ge1 (bin_31 h).1
theorem knot_lt {x : Int32} (h : okN x 65) (h2 : x < 64) : nat x < 64 ∧ x + 1 = nI (nat x + 1) := by
  refine ⟨Nat.not_le.mp fun z => ?_, ?_⟩
  · rw [h.1] at h2
    exact absurd h2 (nI_nlt (a := nat x) (b := 64) z (by have := h.2; omega))
  · conv => lhs; rw [h.1]
    exact nI_1 _
theorem knot_ge {x : Int32} (h : okN x 65) (h2 : ¬ x < 64) : x = 64 := by
  have h3 : nat x = 64 := by
    have := h.2
    have : ¬ nat x < 64 := fun z => h2 (by rw [h.1]; exact nI_lt (a := nat x) (b := 64) z (by omega))
    omega
  rw [h.1, h3]
  rfl
theorem okL_knot {L : St} {W : List Int32} {o : Nat} (ok : okL L W o) (h : L.1 0 < 64) : nat ((lKnot L).1 0) = nat (L.1 0) + 1 ∧ okN ((lKnot L).1 0) 65 ∧ nat (L.1 1) < 64 := by
  obtain ⟨h1, h2, h3, h4, h5⟩ := ok
  obtain ⟨a1, a2⟩ := knot_lt h1 h
  have e : (lKnot L).1 0 = nI (nat (L.1 0) + 1) := a2
  exact ⟨by rw [e]; exact nI_clamp (by omega), okN.of e (by omega) (by decide), by omega⟩
theorem okL_pushk {L : St} {W : List Int32} {o : Nat} {k : Int32} (ok : okL L W o) (h : L.1 0 < 64) (hk : ¬ k = 31) : okL (lKnot L) (k :: W) o := by
  obtain ⟨a1, a2, a3⟩ := okL_knot ok h
  obtain ⟨h1, h2, h3, h4, h5⟩ := ok
  exact ⟨a2, h2, by rw [nonO_c W hk, a1]; show nat (L.1 1) + _ ≤ _; omega, by rw [opnO_c W hk]; exact h4, h5⟩
theorem okL_leaf {L : St} {W : List Int32} {o : Nat} {k v : Int32} (ok : okL L W o) (h : L.1 0 < 64) : okL (pl (lKnot L) k v) W o ∧ nat ((pl (lKnot L) k v).1 0) = nat (L.1 0) + 1 := by
  obtain ⟨a1, a2, a3⟩ := okL_knot ok h
  obtain ⟨h1, h2, h3, h4, h5⟩ := ok
  have e : (pl (lKnot L) k v).1 1 = nI (nat (L.1 1) + 1) := rfl
  have e2 : nat ((pl (lKnot L) k v).1 1) = nat (L.1 1) + 1 := by rw [e]; exact nI_clamp (by omega)
  exact ⟨⟨a2, okN.of e (by omega) (by decide), by rw [e2]; show _ ≤ nat ((lKnot L).1 0); rw [a1]; omega, h4, h5⟩, a1⟩
theorem okL_open {L : St} {W : List Int32} {o : Nat} (ok : okL L W o) (h : o < 8) : okL L (31 :: W) (o + 1) := by
  obtain ⟨h1, h2, h3, h4, h5⟩ := ok
  exact ⟨h1, h2, by rw [nonO_o]; exact h3, by rw [opnO_o, h4], h⟩
theorem okL_close {L : St} {W : List Int32} {o : Nat} (ok : okL L (31 :: W) (o + 1)) : okL L W o := by
  obtain ⟨h1, h2, h3, h4, h5⟩ := ok
  rw [nonO_o] at h3
  rw [opnO_o] at h4
  exact ⟨h1, h2, h3, by omega, by omega⟩
/-- an operator stands behind: a lower one, or a comparison that clashes -/
def stO (lv : Int32) (q : Tk) (L2 : St) (W2 : List Int32) : Prop := isBin q.2.1 = true → lvl q.2.1 < lv ∨ (lvl q.2.1 = 4 ∧ ∃ x r, (popTo 5 W2 L2).2 = x :: r ∧ lvl x = 4)
def PR (b : Nat → Int32) (n : Nat) (C : Cx) (F : Nat) (m : Bool) (q : Tk) (L : St) (W : List Int32) (o : Nat) (lv : Int32) (q1 : Tk) (L1 L2 : St) (W2 : List Int32) (F2 : Nat) : Prop :=
  exprP b n F true m (mkS C q L W o) = exprP b n F2 false false (mkS C q1 L2 W2 o) ∧ popTo lv W2 L2 = popTo lv W L1 ∧ mu n q1 ≤ F2 ∧ mu n q1 < mu n q ∧ okL L1 W o ∧ grX L L1 1 ∧ q1.1 ≤ n ∧ nat (L.1 0) ≤ nat (L1.1 0) ∧ nat (L1.1 0) + nat (L.1 1) = nat (L.1 0) + nat (L1.1 1)
theorem pl_n {L : St} {k v : Int32} (h : nat (L.1 1) < 64) : nat ((pl L k v).1 1) = nat (L.1 1) + 1 := by rw [pl_1]; exact nI_clamp (by omega)
theorem NO.of {b : Nat → Int32} {n F G : Nat} {w m w2 m2 : Bool} {S S2 : PS} {c p : Int32} (e : exprP b n F w m S = exprP b n G w2 m2 S2) (h : NO b n G w2 m2 S2 c p) : NO b n F w m S c p := by
  obtain ⟨X, h1, h2⟩ := h
  exact ⟨X, e.trans h1, h2⟩
section Levels
variable {b : Nat → Int32} {n F F2 F4 : Nat} {C : Cx} {m : Bool} {q q1 q3 : Tk} {L L1 L2 L3 L4 : St} {W W2 W4 : List Int32} {o : Nat} {lv lw k : Int32}
theorem PR.down (h : PR b n C F m q L W o lv q1 L1 L2 W2 F2) (hl : lw ≤ lv) : PR b n C F m q L W o lw q1 L1 L2 W2 F2 :=
  ⟨h.1, popTo_eqm hl h.2.1, h.2.2⟩
theorem PR.leaf (hq : leafB q) (hk : L.1 0 < 64) (hF : mu n q ≤ F) (ok : okL L W o) (hn : q.1 ≤ n) : PR b n C F m q L W o lv (tokN b n q) (pl (lKnot L) q.2.1 q.2.2.2) (pl (lKnot L) q.2.1 q.2.2.2) W (F - 1) := by
  have h1 : ¬ q.2.1 = -1 := by
    rcases hq with h | h
    · rw [h.1]; decide
    · intro z; rw [z] at h; exact h.1 (by decide)
  have h2 := mu_step (b := b) hn h1
  have h3 := mu_1 n q
  obtain ⟨G, rfl⟩ : ∃ G, F = G + 1 := ⟨F - 1, by omega⟩
  obtain ⟨o1, o2⟩ := okL_leaf (k := q.2.1) (v := q.2.2.2) ok hk
  have h64 := (okL_knot ok hk).2.2
  have p1 : nat ((pl (lKnot L) q.2.1 q.2.2.2).1 1) = nat (L.1 1) + 1 := pl_n (L := lKnot L) h64
  refine ⟨E_leaf hq hk, rfl, by show _ ≤ G; omega, h2, o1, ?_, tokN_le hn, by omega, by omega⟩
  exact grX.put (e := 0) (t := 0) (L' := lKnot L) grX.rf.kn (takes_leaf hq) (okL_knot ok hk).2.2
/-- a sign of this level stands behind -/
theorem PR.sign (h : PR b n C F m q L W o lv q1 L1 L2 W2 F2) (hW : ∀ x r, W = x :: r → lvl x < lv) (hq : q1.2.1 = k) (hb : isBin k = true) (hl : lvl k = lv) (hc : lv = 4 → popTo 5 W2 L2 = popTo 5 W L1) (hk : L1.1 0 < 64) :
    exprP b n F true m (mkS C q L W o) = exprP b n (F2 - 1) true (isAO k) (mkS C (tokN b n q1) (lKnot L1) (k :: W) o) ∧ mu n (tokN b n q1) ≤ F2 - 1 ∧ mu n (tokN b n q1) < mu n q1 ∧ okL (lKnot L1) (k :: W) o ∧ (tokN b n q1).1 ≤ n ∧ nat ((lKnot L1).1 0) = nat (L1.1 0) + 1 := by
  obtain ⟨h1, h2, h3, h4, h5, h6, h7, h8⟩ := h
  have k1 : ¬ q1.2.1 = -1 := by rw [hq]; exact (bin_31 hb).2
  have k2 := mu_step (b := b) h7 k1
  have k3 := mu_1 n q1
  obtain ⟨G, rfl⟩ : ∃ G, F2 = G + 1 := ⟨F2 - 1, by omega⟩
  rw [popTo_stop hW] at h2
  refine ⟨h1.trans (E_bin hq hb (fun z x r hx => ?_) (by rw [hl]; exact h2) hk), by show _ ≤ G; omega, k2, okL_pushk h5 hk (bin_31 hb).1, tokN_le h7, (okL_knot h5 hk).1⟩
  have hl4 : lv = 4 := by rw [← hl, z]; decide
  rw [hl, hl4, show (4 : Int32) + 1 = 5 by decide, hc hl4] at hx
  rw [popTo_stop (fun y r hy => Int32.lt_trans (hW y r hy) (by rw [hl4]; decide))] at hx
  intro y
  have := hW x r hx
  rw [y, hl] at this
  exact absurd this (Int32.lt_irrefl)
theorem PR.sign_no (h : PR b n C F m q L W o lv q1 L1 L2 W2 F2) (hW : ∀ x r, W = x :: r → lvl x < lv) (hq : q1.2.1 = k) (hb : isBin k = true) (hl : lvl k = lv) (hc : lv = 4 → popTo 5 W2 L2 = popTo 5 W L1) (hk : ¬ L1.1 0 < 64) :
    NO b n F true m (mkS C q L W o) 2 (nI q1.2.2.1) := by
  obtain ⟨h1, h2, h3, h4, h5, h6, h7, h8⟩ := h
  have k3 := mu_1 n q1
  obtain ⟨G, rfl⟩ : ∃ G, F2 = G + 1 := ⟨F2 - 1, by omega⟩
  rw [popTo_stop hW] at h2
  refine NO.of h1 (E_bin_no hq hb (fun z x r hx => ?_) (by rw [hl]; exact h2) hk)
  have hl4 : lv = 4 := by rw [← hl, z]; decide
  rw [hl, hl4, show (4 : Int32) + 1 = 5 by decide, hc hl4] at hx
  rw [popTo_stop (fun y r hy => Int32.lt_trans (hW y r hy) (by rw [hl4]; decide))] at hx
  intro y
  have := hW x r hx
  rw [y, hl] at this
  exact absurd this (Int32.lt_irrefl)
theorem PR.next (h : PR b n C F m q L W o lv q1 L1 L2 W2 F2) (e : exprP b n F true m (mkS C q L W o) = exprP b n (F2 - 1) true (isAO k) (mkS C (tokN b n q1) (lKnot L1) (k :: W) o)) (hq : q1.2.1 = k) (hb : isBin k = true) (hl : lvl k = lv) (hk : L1.1 0 < 64)
    (h3 : PR b n C (F2 - 1) (isAO k) (tokN b n q1) (lKnot L1) (k :: W) o lw q3 L3 L4 W4 F4) (hw : lv ≤ lw) : PR b n C F m q L W o lv q3 (pl L3 k 0) L4 W4 F4 := by
  obtain ⟨a1, a2, a3, a4, a5, a6, a7, a8⟩ := h
  obtain ⟨c1, c2, c3, c4, c5, c6, c7, c8⟩ := h3
  have k1 : ¬ q1.2.1 = -1 := by rw [hq]; exact (bin_31 hb).2
  have k2 := mu_step (b := b) a7 k1
  obtain ⟨o1, o2⟩ := okL_pop c5 (bin_31 hb).1
  refine ⟨e.trans c1, ?_, c3, by omega, o2, ?_, c7, ?_⟩
  · rw [popTo_eqm hw c2, popTo_one (by rw [hl]; exact Int32.lt_irrefl)]
  · exact grX.put (e := 0) (t := 2) (a6.kn.tr c6) (takes_bin hb) o1
  · have e1 := (okL_knot a5 hk).1
    have e2 : nat ((lKnot L1).1 1) = nat (L1.1 1) := rfl
    have e3 := pl_n (k := k) (v := 0) o1
    show _ ≤ nat (L3.1 0) ∧ nat (L3.1 0) + _ = _
    omega
theorem PR.nt (h20 : q.2.1 = 20) (hF : mu n q ≤ F) (ok : okL L W o) (hn : q.1 ≤ n) (hk : L.1 0 < 64) :
    exprP b n F true true (mkS C q L W o) = exprP b n (F - 1) true true (mkS C (tokN b n q) (lKnot L) (20 :: W) o) ∧ mu n (tokN b n q) ≤ F - 1 ∧ mu n (tokN b n q) < mu n q ∧ okL (lKnot L) (20 :: W) o ∧ (tokN b n q).1 ≤ n ∧ nat ((lKnot L).1 0) = nat (L.1 0) + 1 := by
  have k2 := mu_step (b := b) hn (by rw [h20]; decide)
  have k3 := mu_1 n q
  obtain ⟨G, rfl⟩ : ∃ G, F = G + 1 := ⟨F - 1, by omega⟩
  exact ⟨E_not h20 hk, by show _ ≤ G; omega, k2, okL_pushk ok hk (by decide), tokN_le hn, (okL_knot ok hk).1⟩
theorem PR.nt_no (h20 : q.2.1 = 20) (hF : mu n q ≤ F) (hk : ¬ L.1 0 < 64) : NO b n F true true (mkS C q L W o) 2 (nI q.2.2.1) := by
  have k3 := mu_1 n q
  obtain ⟨G, rfl⟩ : ∃ G, F = G + 1 := ⟨F - 1, by omega⟩
  exact E_not_no h20 hk
theorem PR.ntNext (h20 : q.2.1 = 20) (hF : mu n q ≤ F) (ok : okL L W o) (hn : q.1 ≤ n) (hk : L.1 0 < 64)
    (h3 : PR b n C (F - 1) true (tokN b n q) (lKnot L) (20 :: W) o 3 q3 L3 L4 W4 F4) : PR b n C F true q L W o 3 q3 (pl L3 20 0) L4 W4 F4 := by
  obtain ⟨e1, e2, e3, e4, e5, e6⟩ := PR.nt (b := b) (C := C) (W := W) h20 hF ok hn hk
  obtain ⟨c1, c2, c3, c4, c5, c6, c7, c8⟩ := h3
  obtain ⟨o1, o2⟩ := okL_pop c5 (by decide)
  refine ⟨e1.trans c1, ?_, c3, by omega, o2, ?_, c7, ?_⟩
  · rw [c2, popTo_one (by decide)]
  · exact grX.put (e := 0) (t := 1) c6.kn2 (by decide) o1
  · have e7 : nat ((lKnot L).1 1) = nat (L.1 1) := rfl
    have e8 := pl_n (k := 20) (v := 0) o1
    show _ ≤ nat (L3.1 0) ∧ nat (L3.1 0) + _ = _
    omega
theorem PR.par (h31 : q.2.1 = 31) (hF : mu n q ≤ F) (ok : okL L W o) (hn : q.1 ≤ n) (ho : o < 8) :
    exprP b n F true m (mkS C q L W o) = exprP b n (F - 1) true true (mkS C (tokN b n q) L (31 :: W) (o + 1)) ∧ mu n (tokN b n q) ≤ F - 1 ∧ mu n (tokN b n q) < mu n q ∧ okL L (31 :: W) (o + 1) ∧ (tokN b n q).1 ≤ n := by
  have k2 := mu_step (b := b) hn (by rw [h31]; decide)
  have k3 := mu_1 n q
  obtain ⟨G, rfl⟩ : ∃ G, F = G + 1 := ⟨F - 1, by omega⟩
  exact ⟨E_open h31 ho, by show _ ≤ G; omega, k2, okL_open ok ho, tokN_le hn⟩
theorem stO_1 (h3 : PR b n C F m q L W o 1 q3 L3 L4 W4 F4) (hs : stO 1 q3 L4 W4) (hb : isBin q3.2.1 = true) : NO b n F true m (mkS C q L W o) 1 (nI q3.2.2.1) := by
  obtain ⟨c1, c2, c3, c4, c5, c6, c7, c8⟩ := h3
  have k3 := mu_1 n q3
  obtain ⟨G, rfl⟩ : ∃ G, F4 = G + 1 := ⟨F4 - 1, by omega⟩
  rcases hs hb with z | ⟨z, x, r, hx, hx4⟩
  · exact absurd z (lvl_bin hb)
  · exact NO.of c1 (E_clash rfl hb z hx hx4)
theorem PR.close (h31 : q.2.1 = 31) (hF : mu n q ≤ F) (ok : okL L W o) (hn : q.1 ≤ n) (ho : o < 8) (h3 : PR b n C (F - 1) true (tokN b n q) L (31 :: W) (o + 1) 1 q3 L3 L4 W4 F4) (h32 : q3.2.1 = 32) :
    PR b n C F m q L W o lv (tokN b n q3) L3 L3 W (F4 - 1) := by
  obtain ⟨e1, e2, e3, e4, e5⟩ := PR.par (b := b) (C := C) (m := m) (W := W) h31 hF ok hn ho
  obtain ⟨c1, c2, c3, c4, c5, c6, c7, c8⟩ := h3
  have k2 := mu_step (b := b) c7 (by rw [h32]; decide)
  have k3 := mu_1 n q3
  obtain ⟨G, rfl⟩ : ∃ G, F4 = G + 1 := ⟨F4 - 1, by omega⟩
  have c2' : popTo 1 W4 L4 = (L3, 31 :: W) := c2
  refine ⟨(e1.trans c1).trans (E_cls (by omega) h32 c2'), rfl, by show _ ≤ G; omega, by omega, okL_close c5, c6, tokN_le c7, c8⟩
theorem PR.close_no (h31 : q.2.1 = 31) (hF : mu n q ≤ F) (ok : okL L W o) (hn : q.1 ≤ n) (ho : o < 8) (h3 : PR b n C (F - 1) true (tokN b n q) L (31 :: W) (o + 1) 1 q3 L3 L4 W4 F4) (hs : stO 1 q3 L4 W4) (h32 : ¬ q3.2.1 = 32) :
    NO b n F true m (mkS C q L W o) 1 (nI q3.2.2.1) := by
  obtain ⟨e1, e2, e3, e4, e5⟩ := PR.par (b := b) (C := C) (m := m) (W := W) h31 hF ok hn ho
  refine NO.of e1 ?_
  by_cases hb : isBin q3.2.1 = true
  · exact stO_1 h3 hs hb
  · obtain ⟨c1, c2, c3, c4, c5, c6, c7, c8⟩ := h3
    have k3 := mu_1 n q3
    obtain ⟨G, rfl⟩ : ∃ G, F4 = G + 1 := ⟨F4 - 1, by omega⟩
    exact NO.of c1 (E_cls_no hb (by omega) h32)
theorem PR.top (h3 : PR b n C F m q L [] 0 1 q3 L3 L4 W4 F4) (hb : ¬ isBin q3.2.1 = true) : exprP b n F true m (mkS C q L [] 0) = (true, mkS C q3 L3 [] 0) := by
  obtain ⟨c1, c2, c3, c4, c5, c6, c7, c8⟩ := h3
  have k3 := mu_1 n q3
  obtain ⟨G, rfl⟩ : ∃ G, F4 = G + 1 := ⟨F4 - 1, by omega⟩
  exact c1.trans (E_end hb c2)
end Levels
