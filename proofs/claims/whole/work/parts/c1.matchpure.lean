/-! match: the class's search finds what the model's does -/
def pkB (g : Nat → Int32) (p : Nat) (u : Int32) (x : Nat) : Bool := decide (¬ ((g p &&& (u ^^^ (-1))) >>> (nI x &&& 31)) &&& 1 = 0)
def mxF (pk : Nat → Bool) (v : Nat → Nat) : Nat → Nat → Nat → Nat
  | 0, _, m => m
  | k + 1, x, m => mxF pk v k (x + 1) (if pk x = true then max m (1 + v x) else m)
/-- how many of so many from p on can have a lender -/
def moN (g : Nat → Int32) : Nat → Nat → Int32 → Nat
  | 0, _, _ => 0
  | j + 1, p, u => mxF (pkB g p u) (fun x => moN g j (p + 1) (u ||| bitM x)) 6 0 (moN g j (p + 1) u)
/-- the first lender with whom so many can -/
def chF (g : Nat → Int32) (j p : Nat) (u : Int32) (m : Nat) : Nat → Nat → Int32
  | 0, _ => -2
  | k + 1, x => if pkB g p u x = true ∧ 1 + moN g j (p + 1) (u ||| bitM x) = m then nI x else chF g j p u m k (x + 1)
def stV (g : Nat → Int32) (j p : Nat) (u : Int32) : Int32 := chF g j p u (moN g (j + 1) p u) 6 0
def stU (g : Nat → Int32) (j p : Nat) (u : Int32) : Int32 := if stV g j p u < 0 then u else u ||| ((1 : Int32) <<< (stV g j p u &&& 31))
def uP (g : Nat → Int32) : Nat → Int32
  | 0 => 0
  | p + 1 => stU g (5 - p) p (uP g p)
theorem mx_skip {pk : Nat → Bool} {v : Nat → Nat} : ∀ k x m, (∀ y, x ≤ y → y < x + k → pk y = false) → mxF pk v k x m = m := by
  intro k
  induction k with
  | zero => intro x m _; rfl
  | succ k ih =>
    intro x m h
    rw [mxF, if_neg (by rw [h x (Nat.le_refl _) (by omega)]; decide)]
    exact ih _ _ (fun y h1 h2 => h y (by omega) (by omega))
theorem mx_split {pk : Nat → Bool} {v : Nat → Nat} {b : Nat} : ∀ a x m, mxF pk v (a + b) x m = mxF pk v b (x + a) (mxF pk v a x m) := by
  intro a
  induction a with
  | zero => intro x m; rw [Nat.zero_add]; rfl
  | succ a ih =>
    intro x m
    rw [show a + 1 + b = (a + b) + 1 by omega, mxF, mxF, ih, show x + 1 + a = x + (a + 1) by omega]
theorem mx_le {pk : Nat → Bool} {v : Nat → Nat} {B : Nat} : ∀ k x m, m ≤ B → (∀ y, 1 + v y ≤ B) → mxF pk v k x m ≤ B := by
  intro k
  induction k with
  | zero => intro x m h _; exact h
  | succ k ih =>
    intro x m h h2
    rw [mxF]
    refine ih _ _ ?_ h2
    split
    · exact Nat.max_le.mpr ⟨h, h2 x⟩
    · exact h
theorem moN_le (g : Nat → Int32) : ∀ j p u, moN g j p u ≤ j := by
  intro j
  induction j with
  | zero => intro p u; exact Nat.le_refl 0
  | succ j ih =>
    intro p u
    rw [moN]
    exact mx_le _ _ _ (Nat.le_succ_of_le (ih _ _)) (fun y => by have := ih (p + 1) (u ||| bitM y); omega)
theorem stp_1 (a b : Ops) : (stp a b).1 = max a.1 b.1 := by
  unfold stp
  split <;> omega
theorem bs_ge {f : Nat → Option Ops} {z : Ops} : ∀ k x, z.1 ≤ (bsF f z k x).1 := by
  intro k
  induction k with
  | zero => intro x; exact Int.le_refl _
  | succ k ih =>
    intro x
    rw [bsF]
    split
    · rw [stp_1]
      have := ih (x + 1)
      omega
    · exact ih _
theorem mx_bs {pk : Nat → Bool} {v : Nat → Nat} {f : Nat → Option Ops} {z : Ops} {N : Nat} (h1 : ∀ y, y < N → pk y = true → ∃ o, f y = some o ∧ o.1 = (v y : Int)) (h2 : ∀ y, y < N → pk y = false → f y = none) : ∀ (k x m : Nat), x + k = N → z.1 ≤ (m : Int) → ((mxF pk v k x m : Nat) : Int) = max (m : Int) (bsF f z k x).1 := by
  intro k
  induction k with
  | zero => intro x m _ hz; show (m : Int) = max (m : Int) z.1; omega
  | succ k ih =>
    intro x m hx hz
    rw [mxF, bsF]
    by_cases hp : pk x = true
    · obtain ⟨o, e, eo⟩ := h1 x (by omega) hp
      rw [if_pos hp, e, ih _ _ (by omega) (by omega)]
      show _ = max (m : Int) (stp (shO 1 o) (bsF f z k (x + 1))).1
      rw [stp_1]
      show _ = max (m : Int) (max (1 + o.1) _)
      rw [eo]
      omega
    · rw [if_neg hp, h2 x (by omega) (by simpa using hp), ih _ _ (by omega) hz]
section Match
variable {g : Nat → Int32} {ok : Nat → Int32 → Nat → Bool} {n : Nat}
/-- nobody from n on is of use -/
def outN (g : Nat → Int32) (n : Nat) : Prop := ∀ p u x, p < 6 → x < 6 → (n ≤ p ∨ n ≤ x) → pkB g p u x = false
theorem moN_zero (h : outN g n) : ∀ e p u, n ≤ p → p + e ≤ 6 → moN g e p u = 0 := by
  intro e
  induction e with
  | zero => intro p u _ _; rfl
  | succ e ih =>
    intro p u hp he
    rw [moN, ih _ _ (by omega) (by omega)]
    exact mx_skip _ _ _ (fun y _ hy => h p u y (by omega) (by omega) (Or.inl hp))
theorem ch_skip {j p : Nat} {u : Int32} {m : Nat} : ∀ k x, (∀ y, x ≤ y → y < x + k → pkB g p u y = false) → chF g j p u m k x = -2 := by
  intro k
  induction k with
  | zero => intro x _; rfl
  | succ k ih =>
    intro x h
    rw [chF, if_neg (fun z => by rw [h x (Nat.le_refl _) (by omega)] at z; exact absurd z.1 (by decide))]
    exact ih _ (fun y h1 h2 => h y (by omega) (by omega))
theorem mo_mg (h : outN g n) (hn : n ≤ 6) (hok : ∀ p u x, p < n → x < n → ok p u x = pkB g p u x) : ∀ j p u A, p + j = n → ((moN g (j + (6 - n)) p u : Nat) : Int) = (mgF ok n j p u A).1 := by
  intro j
  induction j with
  | zero =>
    intro p u A hp
    rw [Nat.zero_add, moN_zero h _ _ _ (by omega) (by omega)]
    rfl
  | succ j ih =>
    intro p u A hp
    rw [show j + 1 + (6 - n) = (j + (6 - n)) + 1 by omega, moN, mgF]
    have e6 := mx_split (pk := pkB g p u) (v := fun x => moN g (j + (6 - n)) (p + 1) (u ||| bitM x)) (b := 6 - n) n 0 (moN g (j + (6 - n)) (p + 1) u)
    rw [show n + (6 - n) = 6 by omega] at e6
    rw [e6, mx_skip _ _ _ (fun y hy1 hy2 => h p u y (by omega) (by omega) (Or.inr (by omega)))]
    have hz := ih (p + 1) u (upd A p (-2)) (by omega)
    rw [mx_bs (f := fun x => if ok p u x = true then some (mgF ok n j (p + 1) (u ||| bitM x) (upd A p (nI x))) else none) (z := mgF ok n j (p + 1) u (upd A p (-2))) (N := n) (fun y hy hpk => ⟨_, if_pos ((hok p u y (by omega) hy).trans hpk), (ih (p + 1) _ _ (by omega)).symm⟩) (fun y hy hpk => if_neg (by rw [hok p u y (by omega) hy, hpk]; decide)) n 0 _ (by omega) (by rw [← hz]; exact Int.le_refl _), hz]
    have := bs_ge (f := fun x => if ok p u x = true then some (mgF ok n j (p + 1) (u ||| bitM x) (upd A p (nI x))) else none) (z := mgF ok n j (p + 1) u (upd A p (-2))) n 0
    omega
theorem ch_bs (h : outN g n) (hn : n ≤ 6) (hok : ∀ p u x, p < n → x < n → ok p u x = pkB g p u x) {j p : Nat} {u : Int32} {A : Nat → Int32} (hp : p + (j + 1) = n) : ∀ k x (m : Nat), x + k = n → (m : Int) = (bsF (fun x => if ok p u x = true then some (mgF ok n j (p + 1) (u ||| bitM x) (upd A p (nI x))) else none) (mgF ok n j (p + 1) u (upd A p (-2))) k x).1 →
    (∃ y, y < n ∧ chF g (j + (6 - n)) p u m (k + (6 - n)) x = nI y ∧ (bsF (fun x => if ok p u x = true then some (mgF ok n j (p + 1) (u ||| bitM x) (upd A p (nI x))) else none) (mgF ok n j (p + 1) u (upd A p (-2))) k x).2 = (mgF ok n j (p + 1) (u ||| bitM y) (upd A p (nI y))).2) ∨
    (chF g (j + (6 - n)) p u m (k + (6 - n)) x = -2 ∧ (bsF (fun x => if ok p u x = true then some (mgF ok n j (p + 1) (u ||| bitM x) (upd A p (nI x))) else none) (mgF ok n j (p + 1) u (upd A p (-2))) k x).2 = (mgF ok n j (p + 1) u (upd A p (-2))).2) := by
  intro k
  induction k with
  | zero =>
    intro x m hx _
    refine Or.inr ⟨?_, rfl⟩
    rw [Nat.zero_add]
    exact ch_skip _ _ (fun y h1 h2 => h p u y (by omega) (by omega) (Or.inr (by omega)))
  | succ k ih =>
    intro x m hx hm
    have ih1 := fun m => ih (x + 1) m (by omega)
    rw [bsF] at hm ⊢
    rw [show k + 1 + (6 - n) = (k + (6 - n)) + 1 by omega, chF]
    have hx1 := hok p u x (by omega) (by omega)
    by_cases hpk : pkB g p u x = true
    · have hmo := mo_mg h hn hok j (p + 1) (u ||| bitM x) (upd A p (nI x)) (by omega)
      simp only [if_pos (hx1.trans hpk)] at hm ⊢
      generalize ho : mgF ok n j (p + 1) (u ||| bitM x) (upd A p (nI x)) = o at hm hmo ⊢
      by_cases hlt : (shO 1 o).1 < (bsF (fun x => if ok p u x = true then some (mgF ok n j (p + 1) (u ||| bitM x) (upd A p (nI x))) else none) (mgF ok n j (p + 1) u (upd A p (-2))) k (x + 1)).1
      · have e1 := (show (shO 1 o).1 = 1 + o.1 from rfl)
        have e2 : ∀ R : Ops, (shO 1 o).1 < R.1 → stp (shO 1 o) R = R := fun R hR => by unfold stp; rw [if_pos hR]
        rw [e2 _ hlt] at hm ⊢
        rw [if_neg (fun z => by omega)]
        exact ih1 m hm
      · have e1 := (show (shO 1 o).1 = 1 + o.1 from rfl)
        have e2 : ∀ R : Ops, ¬ (shO 1 o).1 < R.1 → stp (shO 1 o) R = shO 1 o := fun R hR => by unfold stp; rw [if_neg hR]
        rw [e2 _ hlt] at hm ⊢
        rw [if_pos ⟨hpk, by omega⟩]
        exact Or.inl ⟨x, by omega, rfl, by rw [ho]; rfl⟩
    · have hpf : pkB g p u x = false := by simpa using hpk
      rw [if_neg (fun z => hpk z.1)]
      simp only [if_neg (show ¬ ok p u x = true by rw [hx1]; exact hpk)] at hm ⊢
      exact ih1 m hm
theorem mg_path (h : outN g n) (hn : n ≤ 6) (hok : ∀ p u x, p < n → x < n → ok p u x = pkB g p u x) {j p : Nat} {u : Int32} {A : Nat → Int32} (hp : p + (j + 1) = n) : (mgF ok n (j + 1) p u A).2 = (mgF ok n j (p + 1) (stU g (j + (6 - n)) p u) (upd A p (stV g (j + (6 - n)) p u))).2 := by
  have hm := mo_mg h hn hok (j + 1) p u A hp
  have hc := ch_bs h hn hok hp (A := A) (u := u) n 0 (moN g (j + 1 + (6 - n)) p u) (by omega) (by rw [hm]; rfl)
  rw [show n + (6 - n) = 6 by omega, show j + 1 + (6 - n) = (j + (6 - n)) + 1 by omega] at hc
  rw [mgF]
  rcases hc with ⟨y, hy, e1, e2⟩ | ⟨e1, e2⟩
  · have e3 : stV g (j + (6 - n)) p u = nI y := e1
    have e4 : stU g (j + (6 - n)) p u = u ||| bitM y := by
      unfold stU
      rw [e3, if_neg (nI_pos (by omega))]
      rfl
    rw [e2, e3, e4]
  · have e3 : stV g (j + (6 - n)) p u = -2 := e1
    have e4 : stU g (j + (6 - n)) p u = u := by
      unfold stU
      rw [e3, if_pos (by decide)]
    rw [e2, e3, e4]
theorem bs_kept {f : Nat → Option Ops} {z : Ops} {q : Nat} {v : Int32} (h : ∀ x o, f x = some o → o.2 q = v) (hz : z.2 q = v) : ∀ k x, (bsF f z k x).2 q = v := by
  intro k
  induction k with
  | zero => intro x; exact hz
  | succ k ih =>
    intro x
    rw [bsF]
    split
    · rename_i o e
      unfold stp
      split
      · exact ih _
      · exact h x o e
    · exact ih _
theorem mg_kept {N : Nat} : ∀ j p u (A : Nat → Int32) q, q < p → (mgF ok N j p u A).2 q = A q := by
  intro j
  induction j with
  | zero => intro p u A q _; rfl
  | succ j ih =>
    intro p u A q hq
    rw [mgF]
    refine bs_kept (fun x o e => ?_) ?_ _ _
    · by_cases c : ok p u x = true
      · rw [if_pos c] at e
        rw [← Option.some.inj e, ih _ _ _ _ (by omega)]
        exact upd_ne (by omega)
      · rw [if_neg c] at e
        exact absurd e (by simp)
    · rw [ih _ _ _ _ (by omega)]
      exact upd_ne (by omega)
theorem mg_at (h : outN g n) (hn : n ≤ 6) (hok : ∀ p u x, p < n → x < n → ok p u x = pkB g p u x) (A0 : Nat → Int32) : ∀ p, p ≤ n → ∃ A, (mgF ok n n 0 0 A0).2 = (mgF ok n (n - p) p (uP g p) A).2 ∧ ∀ q, q < p → (mgF ok n n 0 0 A0).2 q = stV g (5 - q) q (uP g q) := by
  intro p
  induction p with
  | zero => intro _; exact ⟨A0, rfl, fun q hq => absurd hq (Nat.not_lt_zero q)⟩
  | succ p ih =>
    intro hp
    obtain ⟨A, e1, e2⟩ := ih (by omega)
    have e3 := mg_path h hn hok (j := n - p - 1) (p := p) (u := uP g p) (A := A) (by omega)
    rw [show n - p - 1 + 1 = n - p by omega, show n - p - 1 + (6 - n) = 5 - p by omega] at e3
    refine ⟨upd A p (stV g (5 - p) p (uP g p)), by rw [e1, e3, show n - p - 1 = n - (p + 1) by omega]; rfl, fun q hq => ?_⟩
    by_cases c : q = p
    · subst c
      rw [e1, e3, mg_kept _ _ _ _ _ (by omega)]
      unfold upd
      rw [if_pos rfl]
    · exact e2 q (by omega)
end Match
/-- whom each of PEOPLE can have as lender -/
def gLF (T : Tx) (c : St) (p : Nat) : Int32 := if p < nat (T.1.1 0) ∧ seesB (litM (c.2.1 5) (nat (T.1.1 0))) (T.1.2.1 4 p) p = false then T.1.2.1 4 p &&& (outM (cLeft c) (nat (T.1.1 0)) ^^^ (-1)) else 0
theorem bt_and {x y : Int32} {i : Nat} : bt (x &&& y) i = (bt x i && bt y i) := by
  unfold bt
  rw [Int32.toBitVec_and, BitVec.getLsbD_and]
theorem bt_not {x : Int32} {i : Nat} (hi : i < 32) : bt (x ^^^ (-1)) i = !(bt x i) := by
  unfold bt
  rw [Int32.toBitVec_xor, BitVec.getLsbD_xor, show ((-1 : Int32)).toBitVec = BitVec.allOnes 32 by decide, BitVec.getLsbD_allOnes]
  simp [hi]
theorem pk_bt {g : Nat → Int32} {p x : Nat} {u : Int32} (hx : x < 32) : pkB g p u x = (bt (g p) x && !(bt u x)) := by
  unfold pkB
  rw [decide_not, show decide ((((g p &&& (u ^^^ (-1))) >>> (nI x &&& 31)) &&& 1 = 0)) = decide (bt (g p &&& (u ^^^ (-1))) x = false) from decide_eq_decide.mpr (bt_tst hx).1, bt_and, bt_not hx]
  cases bt (g p) x <;> cases bt u x <;> rfl
theorem out_bt {f : Nat → Int32} {n x : Nat} (hn : n ≤ 6) (hx : x < 32) : bt (outM f n) x = (decide (x < n) && decide (f x = 0)) := by
  rw [outM_set n hn, bt_nI hx, setN_bit]
/-- lenders are PEOPLE -/
theorem lend_out {T : Tx} {f : Nat → Nat → Int32} (hT : relT T f) {p x : Nat} (hp : p < 6) (hx : x < 6) (hn : nat (T.1.1 0) ≤ x) : bt (T.1.2.1 4 p) x = false := by
  obtain ⟨h1, h2, h3, h4⟩ := hT.2.2.2.2.1
  have en : nat (f 3 0) = nat (T.1.1 0) := by rw [hT.1.2.1]
  have e6 : nat (f 3 0) ≤ 6 := by have := hT.1.1.2; omega
  rw [h4 p hp]
  cases hb : bt (lendF (f 14) (f 15) (nI p) (nat (f 3 4))) x with
  | false => rfl
  | true =>
    obtain ⟨k, hk, e1, e2⟩ := (lendF_bt hx _ (fun k hk => (h3 k hk).1.up e6)).mp hb
    have e3 := (h3 k hk).1
    rw [e1] at e3
    have e4 := e3.2
    rw [nat_nI (by omega)] at e4
    omega
theorem out_gL {T : Tx} {c : St} {f : Nat → Nat → Int32} {g : Nat → Int32} (hT : relT T f) (hg : ∀ p, p < 6 → g p = gLF T c p) : outN g (nat (T.1.1 0)) := by
  intro p u x hp hx ho
  rw [pk_bt (by omega), hg p hp]
  unfold gLF
  split
  · rename_i q
    rcases ho with q1 | q1
    · omega
    · rw [bt_and, lend_out hT hp hx q1]
      rfl
  · rw [bt_0]
    rfl
theorem ok_gL {T : Tx} {c : St} {g : Nat → Int32} (hn : nat (T.1.1 0) ≤ 6) (hg : ∀ p, p < 6 → g p = gLF T c p) : ∀ p u x, p < nat (T.1.1 0) → x < nat (T.1.1 0) → okM T c p u x = pkB g p u x := by
  intro p u x hp hx
  rw [pk_bt (by omega), hg p (by omega)]
  unfold okM okW gLF
  rw [decide_not, show decide ((((if seesB (litM (c.2.1 5) (nat (T.1.1 0))) (T.1.2.1 4 p) p = true then 0 else T.1.2.1 4 p &&& (u ^^^ (-1))) >>> (nI x &&& 31)) &&& 1 = 0)) = decide (bt (if seesB (litM (c.2.1 5) (nat (T.1.1 0))) (T.1.2.1 4 p) p = true then 0 else T.1.2.1 4 p &&& (u ^^^ (-1))) x = false) from decide_eq_decide.mpr (bt_tst (by omega)).1]
  cases hs : seesB (litM (c.2.1 5) (nat (T.1.1 0))) (T.1.2.1 4 p) p with
  | true =>
    rw [if_pos rfl, if_neg (fun z => by exact absurd z.2 (by decide)), bt_0]
    rfl
  | false =>
    rw [if_neg (by decide), if_pos ⟨hp, rfl⟩, bt_and, bt_not (by omega), bt_and, bt_not (by omega), out_bt hn (by omega), decide_eq_true hx]
    by_cases hl : cLeft c x = 0
    · rw [decide_eq_true hl]
      cases bt (T.1.2.1 4 p) x <;> cases bt u x <;> simp [hl]
    · rw [decide_eq_false hl]
      cases bt (T.1.2.1 4 p) x <;> cases bt u x <;> simp [hl]
theorem match_all {T : Tx} {c : St} {f : Nat → Nat → Int32} {g : Nat → Int32} (hT : relT T f) (hw : wfT T) (hg : ∀ p, p < 6 → g p = gLF T c p) : aMatch T c 6 = nI (moN g 6 0 0) := by
  have hn : nat (T.1.1 0) ≤ 6 := by have := hw.1.2; omega
  have h := mo_mg (out_gL hT hg) hn (ok_gL hn hg) (nat (T.1.1 0)) 0 0 (fun _ => 0) (by omega)
  rw [show nat (T.1.1 0) + (6 - nat (T.1.1 0)) = 6 by omega] at h
  unfold aMatch
  rw [if_pos ⟨by decide, by decide⟩, if_pos rfl]
  unfold mgA
  rw [← h]
  apply Int32.toBitVec_inj.mp
  show BitVec.ofInt 32 _ = BitVec.ofNat 32 _
  exact BitVec.ofInt_natCast ..
theorem match_one {T : Tx} {c : St} {f : Nat → Nat → Int32} {g : Nat → Int32} (hT : relT T f) (hw : wfT T) (hg : ∀ p, p < 6 → g p = gLF T c p) {q : Nat} (hq : q < 6) : aMatch T c (nI q) = stV g (5 - q) q (uP g q) := by
  have hn : nat (T.1.1 0) ≤ 6 := by have := hw.1.2; omega
  unfold aMatch
  rw [if_pos ⟨nI_pos (by omega), by show ¬ nI 6 < nI q; exact nI_nlt (by omega) (by omega)⟩, if_neg (fun z => by have := nI_inj0 (y := 6) (by omega) (by decide) z; omega)]
  by_cases hqn : q < nat (T.1.1 0)
  · rw [if_pos (by rw [hw.1.1]; exact nI_lt hqn (by omega)), nat_nI (by omega)]
    obtain ⟨A, e1, e2⟩ := mg_at (out_gL hT hg) hn (ok_gL hn hg) (fun _ => 0) (nat (T.1.1 0)) (Nat.le_refl _)
    exact e2 q hqn
  · rw [if_neg (by rw [hw.1.1]; exact nI_nlt (by omega) (by omega))]
    unfold stV
    exact (ch_skip _ _ (fun y _ hy => out_gL hT hg q _ y hq (by omega) (Or.inl (by omega)))).symm
