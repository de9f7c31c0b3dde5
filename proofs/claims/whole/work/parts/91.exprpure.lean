/-! What the class's reading of an expression does, a TOKEN at a time; how it goes with reading by levels -/
abbrev Cx : Type := St × St × St × Int32 × Int32
def mkS (C : Cx) (q : Tk) (L : St) (W : List Int32) (o : Nat) : PS := (q, (C.1, C.2.1, C.2.2.1, L), C.2.2.2.1, C.2.2.2.2, W, o)
def pl (L : St) (k v : Int32) : St := lPlace L (nat (L.1 1)) k v
theorem upd_cm {f : Nat → Int32} {i j : Nat} {x y : Int32} (h : i ≠ j) : upd (upd f i x) j y = upd (upd f j y) i x := by
  funext k
  unfold upd
  by_cases a : k = i
  · subst a; simp [h]
  · by_cases b : k = j
    · subst b; simp [a]
    · simp [a, b]
theorem kn_pl (L : St) (k v : Int32) : lKnot (pl L k v) = pl (lKnot L) k v := by
  show ((upd (upd L.1 1 (nI (nat (L.1 1) + 1))) 0 (L.1 0 + 1), _) : St) = (upd (upd L.1 0 (L.1 0 + 1)) 1 (nI (nat (L.1 1) + 1)), _)
  rw [upd_cm (by decide)]
  rfl
theorem pl_0 (L : St) (k v : Int32) : (pl L k v).1 0 = L.1 0 := rfl
theorem pl_1 (L : St) (k v : Int32) : (pl L k v).1 1 = nI (nat (L.1 1) + 1) := rfl
theorem popTo_cons {lv x : Int32} {W : List Int32} {L : St} : popTo lv (x :: W) L = if lvl x < lv then (L, x :: W) else popTo lv W (pl L x 0) := rfl
theorem popTo_one {lv x : Int32} {W : List Int32} {L : St} (h : ¬ lvl x < lv) : popTo lv (x :: W) L = popTo lv W (pl L x 0) := if_neg h
theorem popTo_stop {lv : Int32} {W : List Int32} {L : St} (h : ∀ x r, W = x :: r → lvl x < lv) : popTo lv W L = (L, W) := by
  cases W with
  | nil => rfl
  | cons x r => exact if_pos (h x r rfl)
theorem popTo_kn {lv : Int32} : ∀ (W : List Int32) (L : St), popTo lv W (lKnot L) = (lKnot (popTo lv W L).1, (popTo lv W L).2) := by
  intro W
  induction W with
  | nil => intro L; rfl
  | cons x W ih =>
    intro L
    rw [popTo_cons, popTo_cons]
    by_cases h : lvl x < lv
    · rw [if_pos h, if_pos h]
    · rw [if_neg h, if_neg h, ← kn_pl, ih]
theorem popTo_k0 {lv : Int32} : ∀ (W : List Int32) (L : St), (popTo lv W L).1.1 0 = L.1 0 := by
  intro W
  induction W with
  | nil => intro L; rfl
  | cons x W ih =>
    intro L
    rw [popTo_cons]
    by_cases h : lvl x < lv
    · rw [if_pos h]
    · rw [if_neg h, ih]; rfl
theorem popTo_mono {lw lv : Int32} (hw : lw ≤ lv) : ∀ (W : List Int32) (L : St), popTo lw (popTo lv W L).2 (popTo lv W L).1 = popTo lw W L := by
  intro W
  induction W with
  | nil => intro L; rfl
  | cons x W ih =>
    intro L
    rw [popTo_cons (lv := lv)]
    by_cases h : lvl x < lv
    · rw [if_pos h]
    · rw [if_neg h, ih, popTo_one (lv := lw) (fun z => h (Int32.lt_of_lt_of_le z hw))]
theorem lvl_le1 (k : Int32) : lvl k ≤ lvl k + 1 := by
  unfold lvl
  repeat' split
  all_goals decide
theorem popTo_eqm {lw lv : Int32} (hw : lw ≤ lv) {W W2 : List Int32} {L L2 : St} (h : popTo lv W2 L2 = popTo lv W L) : popTo lw W2 L2 = popTo lw W L := by
  rw [← popTo_mono hw W2 L2, ← popTo_mono hw W L, h]
section ExprP
variable {b : Nat → Int32} {n F : Nat} {C : Cx} {m : Bool} {q : Tk} {L : St} {W : List Int32} {o : Nat}
def leafB (q : Tk) : Prop := (q.2.1 = -3 ∧ q.2.2.2 ≤ 9999) ∨ (¬ q.2.1 < 11 ∧ q.2.1 ≤ 17)
theorem leaf_part (h : leafB q) : partP m (mkS C q L W o) = leaf2 (mkS C q L W o) := by
  have h31 : ¬ q.2.1 = 31 := by
    rcases h with h | h
    · rw [h.1]; decide
    · intro z; rw [z] at h; exact absurd h.2 (by decide)
  have h20 : ¬ q.2.1 = 20 := by
    rcases h with h | h
    · rw [h.1]; decide
    · intro z; rw [z] at h; exact absurd h.2 (by decide)
  have hl : leafP (mkS C q L W o) = leaf2 (mkS C q L W o) := by
    unfold leafP
    show (if q.2.1 = -3 then (if q.2.2.2 ≤ 9999 then _ else _) else if q.2.1 < 11 then _ else if q.2.1 ≤ 17 then _ else _) = _
    rcases h with h | h
    · rw [if_pos h.1, if_pos h.2]
    · rw [if_neg (fun z => by rw [z] at h; exact h.1 (by decide)), if_neg h.1, if_pos h.2]
  unfold partP
  show (if q.2.1 = 31 then _ else if q.2.1 = 20 then _ else _) = _
  rw [if_neg h31, if_neg h20, hl]
theorem leaf_no (h : leafB q) : isNO q.2.1 = false := by
  unfold isNO
  rcases h with h | h
  · rw [h.1]; decide
  · rw [decide_eq_false (fun z => by rw [z] at h; exact absurd h.2 (by decide)), decide_eq_false (fun z => by rw [z] at h; exact absurd h.2 (by decide))]; rfl
theorem E_leaf (h : leafB q) (hk : L.1 0 < 64) : exprP b n (F + 1) true m (mkS C q L W o) = exprP b n F false false (mkS C (tokN b n q) (pl (lKnot L) q.2.1 q.2.2.2) W o) := by
  rw [exprP, if_pos rfl, leaf_part h]
  have : leaf2 (mkS C q L W o) = (true, mkS C q (pl (lKnot L) q.2.1 q.2.2.2) W o) := by
    unfold leaf2 knotP
    rw [if_pos (show (lawsOf (mkS C q L W o)).1 0 < 64 from hk)]
    rfl
  rw [this]
  show exprP b n F (isNO q.2.1) (isNO q.2.1) _ = _
  rw [leaf_no h]
  rfl
def NO (b : Nat → Int32) (n F : Nat) (w m : Bool) (S : PS) (c p : Int32) : Prop := ∃ X : PS, exprP b n F w m S = (false, X) ∧ X.2.2.1 = c ∧ X.2.2.2.1 = p
theorem E_leaf_no (h : leafB q) (hk : ¬ L.1 0 < 64) : NO b n (F + 1) true m (mkS C q L W o) 2 (nI q.2.2.1) := by
  refine ⟨failP 2 (mkS C q L W o), ?_, rfl, rfl⟩
  rw [exprP, if_pos rfl, leaf_part h]
  unfold leaf2 knotP
  rw [if_neg (show ¬ (lawsOf (mkS C q L W o)).1 0 < 64 from hk)]
  rfl
theorem bad_part (h31 : ¬ q.2.1 = 31) (h20 : q.2.1 = 20 → m = false) : partP m (mkS C q L W o) = leafP (mkS C q L W o) := by
  unfold partP
  show (if q.2.1 = 31 then _ else if q.2.1 = 20 then (if m = true then _ else _) else _) = _
  rw [if_neg h31]
  by_cases z : q.2.1 = 20
  · rw [if_pos z, if_neg (by rw [h20 z]; decide)]
  · rw [if_neg z]
theorem E_big (h3 : q.2.1 = -3) (hv : ¬ q.2.2.2 ≤ 9999) : NO b n (F + 1) true m (mkS C q L W o) 2 (nI q.2.2.1) := by
  refine ⟨failP 2 (mkS C q L W o), ?_, rfl, rfl⟩
  rw [exprP, if_pos rfl, bad_part (by rw [h3]; decide) (fun z => by rw [h3] at z; exact absurd z (by decide))]
  unfold leafP
  rw [if_pos (show (mkS C q L W o).1.2.1 = -3 from h3), if_neg (show ¬ (mkS C q L W o).1.2.2.2 ≤ 9999 from hv)]
  rfl
theorem E_bad (h31 : ¬ q.2.1 = 31) (h20 : q.2.1 = 20 → m = false) (h3 : ¬ q.2.1 = -3) (hr : q.2.1 < 11 ∨ ¬ q.2.1 ≤ 17) : NO b n (F + 1) true m (mkS C q L W o) 1 (nI q.2.2.1) := by
  refine ⟨failP 1 (mkS C q L W o), ?_, rfl, rfl⟩
  rw [exprP, if_pos rfl, bad_part h31 h20]
  have : leafP (mkS C q L W o) = (false, failP 1 (mkS C q L W o)) := by
    unfold leafP
    show (if q.2.1 = -3 then _ else if q.2.1 < 11 then _ else if q.2.1 ≤ 17 then _ else _) = _
    rw [if_neg h3]
    by_cases z : q.2.1 < 11
    · rw [if_pos z]
    · rw [if_neg z, if_neg (hr.resolve_left z)]
  rw [this]
  rfl
theorem E_open (h31 : q.2.1 = 31) (ho : o < 8) : exprP b n (F + 1) true m (mkS C q L W o) = exprP b n F true true (mkS C (tokN b n q) L (31 :: W) (o + 1)) := by
  rw [exprP, if_pos rfl]
  have : partP m (mkS C q L W o) = (true, mkS C q L (31 :: W) (o + 1)) := by
    unfold partP
    rw [if_pos (show (mkS C q L W o).1.2.1 = 31 from h31), if_pos (show (mkS C q L W o).2.2.2.2.2 < 8 from ho)]
    rfl
  rw [this]
  show exprP b n F (isNO q.2.1) (isNO q.2.1) _ = _
  rw [h31]
  rfl
theorem E_open_no (h31 : q.2.1 = 31) (ho : ¬ o < 8) : NO b n (F + 1) true m (mkS C q L W o) 2 (nI q.2.2.1) := by
  refine ⟨failP 2 (mkS C q L W o), ?_, rfl, rfl⟩
  rw [exprP, if_pos rfl]
  unfold partP
  rw [if_pos (show (mkS C q L W o).1.2.1 = 31 from h31), if_neg (show ¬ (mkS C q L W o).2.2.2.2.2 < 8 from ho)]
  rfl
theorem E_not (h20 : q.2.1 = 20) (hk : L.1 0 < 64) : exprP b n (F + 1) true true (mkS C q L W o) = exprP b n F true true (mkS C (tokN b n q) (lKnot L) (20 :: W) o) := by
  rw [exprP, if_pos rfl]
  have : partP true (mkS C q L W o) = (true, mkS C q (lKnot L) (20 :: W) o) := by
    unfold partP
    rw [if_neg (show ¬ (mkS C q L W o).1.2.1 = 31 by show ¬ q.2.1 = 31; rw [h20]; decide), if_pos (show (mkS C q L W o).1.2.1 = 20 from h20), if_pos rfl]
    unfold knotP
    rw [if_pos (show (lawsOf (mkS C q L W o)).1 0 < 64 from hk)]
    rfl
  rw [this]
  show exprP b n F (isNO q.2.1) (isNO q.2.1) _ = _
  rw [h20]
  rfl
theorem E_not_no (h20 : q.2.1 = 20) (hk : ¬ L.1 0 < 64) : NO b n (F + 1) true true (mkS C q L W o) 2 (nI q.2.2.1) := by
  refine ⟨failP 2 (mkS C q L W o), ?_, rfl, rfl⟩
  rw [exprP, if_pos rfl]
  unfold partP
  rw [if_neg (show ¬ (mkS C q L W o).1.2.1 = 31 by show ¬ q.2.1 = 31; rw [h20]; decide), if_pos (show (mkS C q L W o).1.2.1 = 20 from h20), if_pos rfl]
  unfold knotP
  rw [if_neg (show ¬ (lawsOf (mkS C q L W o)).1 0 < 64 from hk)]
  rfl
theorem bin2_eq {k : Int32} {A : St} {WA : List Int32} (hp : popTo (lvl k + 1) W L = (A, WA)) {L1 : St} {W1 : List Int32} (hl : popTo (lvl k) W L = (L1, W1)) : placeP (lvl k + 1) (mkS C q L W o) = mkS C q A WA o ∧ (A.1 0 < 64 → bin2 k (mkS C q A WA o) = (true, mkS C q (lKnot L1) (k :: W1) o)) ∧ (¬ A.1 0 < 64 → bin2 k (mkS C q A WA o) = (false, failP 2 (mkS C q A WA o))) ∧ A.1 0 = L1.1 0 := by
  have e1 : A = (popTo (lvl k + 1) W L).1 := by rw [hp]
  have e2 : WA = (popTo (lvl k + 1) W L).2 := by rw [hp]
  have h2 : popTo (lvl k) WA (lKnot A) = (lKnot L1, W1) := by
    rw [popTo_kn, e1, e2, popTo_mono (lvl_le1 k), hl]
  refine ⟨?_, fun h => ?_, fun h => ?_, ?_⟩
  · show mkS C q (popTo (lvl k + 1) W L).1 (popTo (lvl k + 1) W L).2 o = _
    rw [hp]
  · unfold bin2 knotP
    rw [if_pos (show (lawsOf (mkS C q A WA o)).1 0 < 64 from h)]
    show (true, mkS C q (popTo (lvl k) WA (lKnot A)).1 (k :: (popTo (lvl k) WA (lKnot A)).2) o) = _
    rw [h2]
  · unfold bin2 knotP
    rw [if_neg (show ¬ (lawsOf (mkS C q A WA o)).1 0 < 64 from h)]
    rfl
  · rw [e1, popTo_k0]
    have := popTo_k0 (lv := lvl k) W L
    rw [hl] at this
    exact this.symm
theorem E_binG {k : Int32} (hk : q.2.1 = k) (hb : isBin k = true) (hc : lvl k = lvl 35 → ∀ x r, (popTo (lvl k + 1) W L).2 = x :: r → ¬ lvl x = lvl k) : ∃ A WA, popTo (lvl k + 1) W L = (A, WA) ∧ binP k (mkS C q L W o) = bin2 k (mkS C q A WA o) := by
  obtain ⟨⟨A, WA⟩, hA⟩ : ∃ z, popTo (lvl k + 1) W L = z := ⟨_, rfl⟩
  refine ⟨A, WA, hA, ?_⟩
  have e : placeP (lvl k + 1) (mkS C q L W o) = mkS C q A WA o := by
    show mkS C q (popTo (lvl k + 1) W L).1 (popTo (lvl k + 1) W L).2 o = _
    rw [hA]
  unfold binP
  rw [e]
  by_cases z : lvl k = lvl 35
  · rw [if_pos z, if_neg]
    have hcl : ∀ V : List Int32, (∀ x r, V = x :: r → ¬ lvl x = lvl k) → ¬ clashB k (mkS C q A V o) = true := by
      intro V hV
      cases V with
      | nil => intro y; cases y
      | cons x r => intro y; exact hV x r rfl (of_decide_eq_true y)
    exact hcl WA (fun x r hx => hc z x r (by rw [hA]; exact hx))
  · rw [if_neg z]
theorem E_bin {k : Int32} (hk : q.2.1 = k) (hb : isBin k = true) (hc : lvl k = lvl 35 → ∀ x r, (popTo (lvl k + 1) W L).2 = x :: r → ¬ lvl x = lvl k) {L1 : St} {W1 : List Int32} (hl : popTo (lvl k) W L = (L1, W1)) (hkn : L1.1 0 < 64) : exprP b n (F + 1) false m (mkS C q L W o) = exprP b n F true (isAO k) (mkS C (tokN b n q) (lKnot L1) (k :: W1) o) := by
  obtain ⟨A, WA, hA, hbin⟩ := E_binG (C := C) (o := o) hk hb hc
  obtain ⟨-, h2, -, h4⟩ := bin2_eq (C := C) (q := q) (o := o) hA hl
  rw [exprP, if_neg (by decide), if_pos (show isBin (mkS C q L W o).1.2.1 = true by show isBin q.2.1 = true; rw [hk]; exact hb)]
  show bindP (binP q.2.1 (mkS C q L W o)) _ = _
  rw [hk, hbin, h2 (by rw [h4]; exact hkn)]
  show exprP b n F true (isAO q.2.1) _ = _
  rw [hk]
  rfl
theorem E_bin_no {k : Int32} (hk : q.2.1 = k) (hb : isBin k = true) (hc : lvl k = lvl 35 → ∀ x r, (popTo (lvl k + 1) W L).2 = x :: r → ¬ lvl x = lvl k) {L1 : St} {W1 : List Int32} (hl : popTo (lvl k) W L = (L1, W1)) (hkn : ¬ L1.1 0 < 64) : NO b n (F + 1) false m (mkS C q L W o) 2 (nI q.2.2.1) := by
  obtain ⟨A, WA, hA, hbin⟩ := E_binG (C := C) (o := o) hk hb hc
  obtain ⟨-, -, h3, h4⟩ := bin2_eq (C := C) (q := q) (o := o) hA hl
  refine ⟨failP 2 (mkS C q A WA o), ?_, rfl, rfl⟩
  rw [exprP, if_neg (by decide), if_pos (show isBin (mkS C q L W o).1.2.1 = true by show isBin q.2.1 = true; rw [hk]; exact hb)]
  show bindP (binP q.2.1 (mkS C q L W o)) _ = _
  rw [hk, hbin, h3 (by rw [h4]; exact hkn)]
  rfl
theorem E_clash {k : Int32} (hk : q.2.1 = k) (hb : isBin k = true) (h4 : lvl k = 4) {x : Int32} {r : List Int32} (hx : (popTo 5 W L).2 = x :: r) (hx4 : lvl x = 4) : NO b n (F + 1) false m (mkS C q L W o) 1 (nI q.2.2.1) := by
  refine ⟨failP 1 (placeP 5 (mkS C q L W o)), ?_, rfl, rfl⟩
  rw [exprP, if_neg (by decide), if_pos (show isBin (mkS C q L W o).1.2.1 = true by show isBin q.2.1 = true; rw [hk]; exact hb)]
  show bindP (binP q.2.1 (mkS C q L W o)) _ = _
  have : binP k (mkS C q L W o) = (false, failP 1 (placeP 5 (mkS C q L W o))) := by
    unfold binP
    rw [h4, if_pos (by decide), show (4 : Int32) + 1 = 5 by decide, if_pos]
    unfold clashB
    show (match (popTo 5 W L).2 with | [] => false | x :: _ => decide (lvl x = lvl k)) = true
    rw [hx]
    simp [hx4, h4]
  rw [hk, this]
  rfl
theorem E_end (hb : ¬ isBin q.2.1 = true) {L1 : St} {W1 : List Int32} (hl : popTo 1 W L = (L1, W1)) : exprP b n (F + 1) false m (mkS C q L W 0) = (true, mkS C q L1 W1 0) := by
  rw [exprP, if_neg (by decide), if_neg (show ¬ isBin (mkS C q L W 0).1.2.1 = true from hb), if_pos (show (mkS C q L W 0).2.2.2.2.2 = 0 from rfl)]
  show (true, mkS C q (popTo 1 W L).1 (popTo 1 W L).2 0) = _
  rw [hl]
theorem E_cls (ho : ¬ o = 0) (h32 : q.2.1 = 32) {L1 : St} {W1 : List Int32} (hl : popTo 1 W L = (L1, 31 :: W1)) : exprP b n (F + 1) false m (mkS C q L W o) = exprP b n F false m (mkS C (tokN b n q) L1 W1 (o - 1)) := by
  rw [exprP, if_neg (by decide), if_neg (show ¬ isBin (mkS C q L W o).1.2.1 = true by show ¬ isBin q.2.1 = true; rw [h32]; decide), if_neg (show ¬ (mkS C q L W o).2.2.2.2.2 = 0 from ho), if_pos (show (mkS C q L W o).1.2.1 = 32 from h32)]
  have : stepP b n (clsP (placeP 1 (mkS C q L W o))) = mkS C (tokN b n q) L1 W1 (o - 1) := by
    show mkS C (tokN b n q) (popTo 1 W L).1 (popTo 1 W L).2.tail (o - 1) = _
    rw [hl]
    rfl
  rw [this]
theorem E_cls_no (hb : ¬ isBin q.2.1 = true) (ho : ¬ o = 0) (h32 : ¬ q.2.1 = 32) : NO b n (F + 1) false m (mkS C q L W o) 1 (nI q.2.2.1) := by
  refine ⟨failP 1 (mkS C q L W o), ?_, rfl, rfl⟩
  rw [exprP, if_neg (by decide), if_neg (show ¬ isBin (mkS C q L W o).1.2.1 = true from hb), if_neg (show ¬ (mkS C q L W o).2.2.2.2.2 = 0 from ho), if_neg (show ¬ (mkS C q L W o).1.2.1 = 32 from h32)]
end ExprP
/-- how far it is to the end, at least so many TOKENS more -/
def mu (n : Nat) (q : Tk) : Nat := if q.2.1 = -1 then 1 else n - q.1 + 2
theorem mu_1 (n : Nat) (q : Tk) : 1 ≤ mu n q := by
  unfold mu
  split <;> omega
theorem wdK_ne1 {x : Int32} : ∀ k i, i + k ≤ 21 → ¬ wdK x k i = -1 := by
  intro k
  induction k with
  | zero => intro i _; show ¬ (-4 : Int32) = -1; decide
  | succ k ih =>
    intro i h
    unfold wdK
    split
    · exact nI_m1 (by omega)
    · exact ih (i + 1) (by omega)
theorem stepK_at {b : Nat → Int32} {n p : Nat} {vl : Int32} (h : ¬ (stepK b n p vl).2.1 = -1) : p < (stepK b n p vl).1 := by
  unfold stepK at h ⊢
  by_cases h1 : n ≤ p
  · rw [if_pos h1] at h; exact absurd rfl h
  rw [if_neg h1] at h ⊢
  by_cases h2 : letB (b p) = true
  · rw [if_pos h2]; exact spF_1 (by omega) h2
  rw [if_neg h2] at h ⊢
  by_cases h3 : digB (b p) = true
  · rw [if_pos h3]; exact spF_1 (by omega) h3
  rw [if_neg h3]
  show p < p + _
  split <;> omega
theorem mu_step {b : Nat → Int32} {n : Nat} {q : Tk} (hq : q.1 ≤ n) (h : ¬ q.2.1 = -1) : mu n (tokN b n q) < mu n q := by
  have h1 : mu n q = n - q.1 + 2 := if_neg h
  rw [h1]
  unfold mu
  split
  · omega
  · rename_i z
    have h2 := stepK_at z
    have h3 := (spF_ge blkB b (n - q.1) q.1).1
    have h4 : (tokN b n q).1 ≤ n := tokN_le hq
    have h5 : q.1 < (tokN b n q).1 := Nat.lt_of_le_of_lt h3 h2
    omega
