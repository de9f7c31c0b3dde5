/-! What is told, as the class and as the model have it; one ROOM of the model and a Candles (rows of bt pasted from the kit's BITS) -/
def bt (x : Int32) (i : Nat) : Bool := x.toBitVec.getLsbD i
theorem b_ext {x y : Int32} (h : ∀ i, i < 32 → bt x i = bt y i) : x = y := Int32.toBitVec_inj.mp (BitVec.eq_of_getLsbD_eq (fun i hi => h i hi))
theorem s_l : ∀ n, n < 32 → ((nI n &&& 31).toBitVec.smod 32).toNat = n := by decide +kernel
theorem b_sshr (n : Nat) (hn : n < 32) (x : Int32) {i : Nat} (hi : i < 32) : bt (x >>> (nI n &&& 31)) i = if n + i < 32 then bt x (n + i) else bt x 31 := by
  unfold bt
  rw [Int32.toBitVec_shiftRight]
  show (x.toBitVec.sshiftRight ((nI n &&& 31).toBitVec.smod 32).toNat).getLsbD i = _
  rw [s_l n hn, BitVec.getLsbD_sshiftRight, BitVec.msb_eq_getLsbD_last]
  simp [hi]
theorem bt_nI {n i : Nat} (hi : i < 32) : bt (nI n) i = n.testBit i := by
  show (BitVec.ofNat 32 n).getLsbD i = _
  rw [BitVec.getLsbD_ofNat]
  simp [hi]
theorem shr_nI {n k : Nat} (hn : n < 2 ^ 31) (hk : k < 32) : nI n >>> (nI k &&& 31) = nI (n / 2 ^ k) := by
  apply b_ext
  intro i hi
  rw [b_sshr k hk _ hi, bt_nI hi, ← Nat.shiftRight_eq_div_pow, Nat.testBit_shiftRight]
  split
  · rw [bt_nI (by omega)]
  · rw [bt_nI (by omega), Nat.testBit_lt_two_pow (by omega), Nat.testBit_lt_two_pow (Nat.lt_of_lt_of_le hn (Nat.pow_le_pow_right (by decide) (by omega)))]
theorem and1 (x : Int32) : x &&& 1 = 0 ∨ x &&& 1 = 1 := by
  obtain ⟨n, -, rfl⟩ : ∃ n, n < 2 ^ 32 ∧ x = nI n := ⟨x.toBitVec.toNat, x.toBitVec.isLt, Int32.toBitVec_inj.mp (by show _ = BitVec.ofNat 32 _; simp)⟩
  rw [show (1 : Int32) = nI 1 by decide, nx_and, Nat.and_one_is_mod]
  rcases Nat.mod_two_eq_zero_or_one n with h | h <;> rw [h]
  · exact Or.inl (by decide)
  · exact Or.inr rfl
theorem and1_iff (x : Int32) : x &&& 1 = 1 ↔ ¬ x &&& 1 = 0 := by
  rcases and1 x with h | h <;> rw [h] <;> decide
theorem nextN_m (x : Int32) : nextN x = (x * 1103515245 + 12345) &&& 2147483647 := by
  unfold nextN
  simp
theorem and31 (x : Int32) : ∃ n : Nat, n < 2 ^ 31 ∧ x &&& 2147483647 = nI n := by
  obtain ⟨n, -, rfl⟩ : ∃ n, n < 2 ^ 32 ∧ x = nI n := ⟨x.toBitVec.toNat, x.toBitVec.isLt, Int32.toBitVec_inj.mp (by show _ = BitVec.ofNat 32 _; simp)⟩
  refine ⟨n &&& 2147483647, Nat.lt_of_le_of_lt Nat.and_le_right (by decide), ?_⟩
  rw [show (2147483647 : Int32) = nI 2147483647 by decide, nx_and]
theorem toldN_m (x : Int32) : toldN (nextN x) = (nextN x >>> (16 &&& 31)) - (nextN x >>> (16 &&& 31)) / 100 * 100 := by
  rw [nextN_m]
  obtain ⟨n, hn, h⟩ := and31 (x * 1103515245 + 12345)
  rw [h, show (16 : Int32) = nI 16 by decide, shr_nI hn (by decide)]
  unfold toldN
  rw [show (65536 : Int32) = nI 65536 by decide, pk_div hn (by decide) (by decide)]
def relN (T : Tx) (f : Nat → Nat → Int32) : Prop := okN (f 3 0) 7 ∧ T.1.1 0 = f 3 0 ∧ ∀ p, p < nat (f 3 0) → T.1.2.1 1 p = f 4 p ∧ T.1.2.1 2 p = f 5 p ∧ okN (f 5 p) 61
def relJ (T : Tx) (f : Nat → Nat → Int32) : Prop := okN (f 3 1) 13 ∧ T.1.1 5 = f 3 1 ∧ (∀ k, k < nat (f 3 1) → okN (f 6 k) (nat (f 3 0)) ∧ okN (f 7 k) 60) ∧ apartJ (f 6) (f 7) (nat (f 3 1)) ∧ ∀ p, p < 6 → T.1.2.2.1 3 p = juneF (f 6) (f 7) (nI p) (nat (f 3 1))
def relD (D : St) (n : Int32) (w e h : Nat → Int32) (b : Nat) : Prop := okN n b ∧ D.1 0 = n ∧ ∀ k, k < nat n → D.2.1 2 k = w k ∧ D.2.1 3 k = e k ∧ D.2.1 4 k = h k
def relLn (T : Tx) (f : Nat → Nat → Int32) : Prop := okN (f 3 4) 9 ∧ T.1.1 6 = f 3 4 ∧ (∀ k, k < nat (f 3 4) → okN (f 14 k) (nat (f 3 0)) ∧ okN (f 15 k) (nat (f 3 0))) ∧ ∀ p, p < 6 → T.1.2.1 4 p = lendF (f 14) (f 15) (nI p) (nat (f 3 4))
def relW (L : St) (f : Nat → Nat → Int32) : Prop := okN (f 3 7) 65 ∧ L.1 1 = f 3 7 ∧ (∀ k, k < nat (f 3 7) → knR (L.2.1 2 k) (L.2.1 3 k) (f 18 k) (f 19 k)) ∧
  ∀ r, r < 3 → L.2.1 4 r = f 16 r ∧ L.2.1 5 r = f 17 r ∧ okN (f 16 r) 65 ∧ okN (f 17 r) 65 ∧ nat (f 16 r) ≤ nat (f 17 r) ∧ nat (f 17 r) ≤ nat (f 3 7) ∧ (nat (f 16 r) < nat (f 17 r) → wfE (L.2.1 2) (nat (f 17 r) - nat (f 16 r)) (nat (f 16 r)) 0)
/-- what is told: T as the class has it, f the model's rows -/
def relT (T : Tx) (f : Nat → Nat → Int32) : Prop := relN T f ∧ relJ T f ∧ relD T.2.1 (f 3 2) (f 8) (f 9) (f 10) 13 ∧ relD T.2.2.1 (f 3 3) (f 11) (f 12) (f 13) 9 ∧ relLn T f ∧ (T.1.1 10 = f 3 5 ∧ T.1.1 11 = f 3 6) ∧ relW T.2.2.2 f
theorem relT.kept {T : Tx} {f g : Nat → Nat → Int32} (h : relT T f) (e : ∀ k, k ≤ 19 → g k = f k) : relT T g := by
  unfold relT relN relJ relD relLn relW at h ⊢
  rw [e 3 (by decide), e 4 (by decide), e 5 (by decide), e 6 (by decide), e 7 (by decide), e 8 (by decide), e 9 (by decide), e 10 (by decide), e 11 (by decide), e 12 (by decide), e 13 (by decide), e 14 (by decide), e 15 (by decide), e 16 (by decide), e 17 (by decide), e 18 (by decide), e 19 (by decide)]
  exact h
/-- room r of the model is the Candles c -/
def relC (T : Tx) (s : St) (r : Nat) (c : St) : Prop := c.1 0 = T.1.1 0 ∧ c.1 7 = s.2.1 36 r ∧ c.1 10 = s.2.1 37 r ∧ c.1 8 = s.2.1 38 r ∧ c.1 9 = s.2.1 39 r ∧
  (∀ p, p < 6 → c.2.1 3 p = s.2.1 40 (6 * r + p) ∧ c.2.1 4 p = s.2.1 41 (6 * r + p) ∧ c.2.1 5 p = s.2.1 42 (6 * r + p) ∧ c.2.1 6 p = s.2.1 43 (6 * r + p)) ∧
  ∀ p, p < nat (T.1.1 0) → c.2.1 1 p = mIn s p ∧ c.2.2.1 2 p = T.1.2.2.1 3 p
def wfC (n : Nat) (c : St) : Prop := ∀ p, p < n → ∃ I t l : Nat, c.2.1 1 p = nI I ∧ c.2.1 3 p = nI t ∧ c.2.1 4 p = nI l ∧ t + l ≤ I ∧ I ≤ 60 ∧ okN (c.2.1 5 p) 4
/-- all but room r stays -/
def frR (r : Nat) (s s' : St) : Prop := (∀ j, j ≠ 35 → s'.1 j = s.1 j) ∧ (∀ k, ¬ (36 ≤ k ∧ k ≤ 43) → s'.2.1 k = s.2.1 k) ∧ (∀ k i, 36 ≤ k → k ≤ 39 → i ≠ r → s'.2.1 k i = s.2.1 k i) ∧ ∀ k i, 40 ≤ k → k ≤ 43 → (i < 6 * r ∨ 6 * r + 6 ≤ i) → s'.2.1 k i = s.2.1 k i
theorem frR.rf {r : Nat} {s : St} : frR r s s := ⟨fun _ _ => rfl, fun _ _ => rfl, fun _ _ _ _ _ => rfl, fun _ _ _ _ _ => rfl⟩
theorem frR.tr {r : Nat} {s1 s2 s3 : St} (h : frR r s1 s2) (k : frR r s2 s3) : frR r s1 s3 :=
  ⟨fun j hj => (k.1 j hj).trans (h.1 j hj), fun j hj => (k.2.1 j hj).trans (h.2.1 j hj), fun a b x y z => (k.2.2.1 a b x y z).trans (h.2.2.1 a b x y z), fun a b x y z => (k.2.2.2 a b x y z).trans (h.2.2.2 a b x y z)⟩
theorem frR.sc {r : Nat} {s s' : St} (h : scW s s') : frR r s s' := ⟨h.1, fun k _ => by rw [h.2.1], fun k i _ _ _ => by rw [h.2.1], fun k i _ _ _ => by rw [h.2.1]⟩
theorem mA_ne {s : St} {k i j : Nat} {v : Int32} (h : j ≠ k) : (mA s k i v).2.1 j = s.2.1 j := by
  show (if j = k then _ else _) = _
  rw [if_neg h]
theorem mA_at {s : St} {k i j : Nat} {v : Int32} : (mA s k i v).2.1 k j = if j = i then v else s.2.1 k j := by
  show (if k = k then upd (s.2.1 k) i v else s.2.1 k) j = _
  rw [if_pos rfl]
  rfl
theorem frR.a {r k i : Nat} {s : St} {v : Int32} (h : (36 ≤ k ∧ k ≤ 39 ∧ i = r) ∨ (40 ≤ k ∧ k ≤ 43 ∧ 6 * r ≤ i ∧ i < 6 * r + 6)) : frR r s (mA s k i v) := by
  refine ⟨fun _ _ => rfl, fun j hj => mA_ne (by omega), fun j q h1 h2 h3 => ?_, fun j q h1 h2 h3 => ?_⟩
  · by_cases e : j = k
    · subst e; rw [mA_at, if_neg (by omega)]
    · rw [mA_ne e]
  · by_cases e : j = k
    · subst e; rw [mA_at, if_neg (by omega)]
    · rw [mA_ne e]
theorem frR.T {r : Nat} {s s' : St} {T : Tx} (h : frR r s s') (hT : relT T s.2.1) : relT T s'.2.1 := hT.kept (fun k hk => h.2.1 k (by omega))
theorem relC.sc {T : Tx} {r : Nat} {s s' : St} {c : St} (h : relC T s r c) (k : scW s s') : relC T s' r c := by
  unfold relC mIn at h ⊢
  rw [k.2.1, k.1 48 (by decide), k.1 49 (by decide)]
  exact h
theorem frR.mIn {r : Nat} {s s' : St} (h : frR r s s') (p : Nat) : mIn s' p = mIn s p := by
  show (if nI p = s'.1 48 then s'.1 49 else s'.2.1 5 p) = if nI p = s.1 48 then s.1 49 else s.2.1 5 p
  rw [h.1 48 (by decide), h.1 49 (by decide), h.2.1 5 (by decide)]
theorem relC.top {T : Tx} {r p : Nat} {s c : St} {v : Int32} (h : relC T s r c) (hp : p < 6) : relC T (mA s 40 (6 * r + p) v) r (c.1, uA c.2.1 3 p v, c.2.2) := by
  obtain ⟨h0, h1, h2, h3, h4, h5, h6⟩ := h
  refine ⟨h0, h1, h2, h3, h4, fun q hq => ?_, h6⟩
  obtain ⟨a1, a2, a3, a4⟩ := h5 q hq
  have hx : uA c.2.1 3 p v 3 q = (mA s 40 (6 * r + p) v).2.1 40 (6 * r + q) := by
    rw [mA_at]
    show upd (c.2.1 3) p v q = _
    unfold upd
    by_cases e : q = p
    · rw [if_pos e, if_pos (by omega)]
    · rw [if_neg e, if_neg (by omega)]
      exact a1
  exact ⟨hx, a2, a3, a4⟩
theorem relC.low {T : Tx} {r p : Nat} {s c : St} {v : Int32} (h : relC T s r c) (hp : p < 6) : relC T (mA s 41 (6 * r + p) v) r (c.1, uA c.2.1 4 p v, c.2.2) := by
  obtain ⟨h0, h1, h2, h3, h4, h5, h6⟩ := h
  refine ⟨h0, h1, h2, h3, h4, fun q hq => ?_, h6⟩
  obtain ⟨a1, a2, a3, a4⟩ := h5 q hq
  have hx : uA c.2.1 4 p v 4 q = (mA s 41 (6 * r + p) v).2.1 41 (6 * r + q) := by
    rw [mA_at]
    show upd (c.2.1 4) p v q = _
    unfold upd
    by_cases e : q = p
    · rw [if_pos e, if_pos (by omega)]
    · rw [if_neg e, if_neg (by omega)]
      exact a2
  exact ⟨a1, hx, a3, a4⟩
theorem relC.lit {T : Tx} {r p : Nat} {s c : St} {v : Int32} (h : relC T s r c) (hp : p < 6) : relC T (mA s 42 (6 * r + p) v) r (c.1, uA c.2.1 5 p v, c.2.2) := by
  obtain ⟨h0, h1, h2, h3, h4, h5, h6⟩ := h
  refine ⟨h0, h1, h2, h3, h4, fun q hq => ?_, h6⟩
  obtain ⟨a1, a2, a3, a4⟩ := h5 q hq
  have hx : uA c.2.1 5 p v 5 q = (mA s 42 (6 * r + p) v).2.1 42 (6 * r + q) := by
    rw [mA_at]
    show upd (c.2.1 5) p v q = _
    unfold upd
    by_cases e : q = p
    · rw [if_pos e, if_pos (by omega)]
    · rw [if_neg e, if_neg (by omega)]
      exact a3
  exact ⟨a1, a2, hx, a4⟩
theorem relC.seen {T : Tx} {r p : Nat} {s c : St} {v : Int32} (h : relC T s r c) (hp : p < 6) : relC T (mA s 43 (6 * r + p) v) r (c.1, uA c.2.1 6 p v, c.2.2) := by
  obtain ⟨h0, h1, h2, h3, h4, h5, h6⟩ := h
  refine ⟨h0, h1, h2, h3, h4, fun q hq => ?_, h6⟩
  obtain ⟨a1, a2, a3, a4⟩ := h5 q hq
  have hx : uA c.2.1 6 p v 6 q = (mA s 43 (6 * r + p) v).2.1 43 (6 * r + q) := by
    rw [mA_at]
    show upd (c.2.1 6) p v q = _
    unfold upd
    by_cases e : q = p
    · rw [if_pos e, if_pos (by omega)]
    · rw [if_neg e, if_neg (by omega)]
      exact a4
  exact ⟨a1, a2, a3, hx⟩
theorem relC.hour {T : Tx} {r : Nat} {s c : St} {v : Int32} (h : relC T s r c) : relC T (mA s 36 r v) r (upd c.1 7 v, c.2.1, c.2.2.1, c.2.2.2) := by
  obtain ⟨h0, h1, h2, h3, h4, h5, h6⟩ := h
  have hx : upd c.1 7 v 7 = (mA s 36 r v).2.1 36 r := by
    rw [mA_at, if_pos rfl]
    rfl
  exact ⟨h0, hx, h2, h3, h4, h5, h6⟩
theorem relC.drawn {T : Tx} {r : Nat} {s c : St} {v : Int32} (h : relC T s r c) : relC T (mA s 37 r v) r (upd c.1 10 v, c.2.1, c.2.2.1, c.2.2.2) := by
  obtain ⟨h0, h1, h2, h3, h4, h5, h6⟩ := h
  have hx : upd c.1 10 v 10 = (mA s 37 r v).2.1 37 r := by
    rw [mA_at, if_pos rfl]
    rfl
  exact ⟨h0, h1, hx, h3, h4, h5, h6⟩
theorem relC.glow {T : Tx} {r : Nat} {s c : St} {v : Int32} (h : relC T s r c) : relC T (mA s 38 r v) r (upd c.1 8 v, c.2.1, c.2.2.1, c.2.2.2) := by
  obtain ⟨h0, h1, h2, h3, h4, h5, h6⟩ := h
  have hx : upd c.1 8 v 8 = (mA s 38 r v).2.1 38 r := by
    rw [mA_at, if_pos rfl]
    rfl
  exact ⟨h0, h1, h2, hx, h4, h5, h6⟩
theorem relC.idle {T : Tx} {r : Nat} {s c : St} {v : Int32} (h : relC T s r c) : relC T (mA s 39 r v) r (upd c.1 9 v, c.2.1, c.2.2.1, c.2.2.2) := by
  obtain ⟨h0, h1, h2, h3, h4, h5, h6⟩ := h
  have hx : upd c.1 9 v 9 = (mA s 39 r v).2.1 39 r := by
    rw [mA_at, if_pos rfl]
    rfl
  exact ⟨h0, h1, h2, h3, hx, h5, h6⟩
theorem relC.left {T : Tx} {s c : St} {r p : Nat} (h : relC T s r c) (hT : relT T s.2.1) (hp : p < nat (T.1.1 0)) : mLeft s r p = cLeft c p ∧ p < 6 := by
  have hp6 : p < 6 := by have := hT.1.1.2; rw [hT.1.2.1] at hp; omega
  obtain ⟨a1, a2, -⟩ := h.2.2.2.2.2.1 p hp6
  refine ⟨?_, hp6⟩
  unfold mLeft cLeft
  rw [← (h.2.2.2.2.2.2 p hp).1, a1, a2]
theorem relC.isl {T : Tx} {s c : St} {r p : Nat} {x : Int32} (h : relC T s r c) (hT : relT T s.2.1) (hp : p < nat (T.1.1 0)) : mIsL s r p x = cIsLeft c p x := by
  have hp6 : p < 6 := by have := hT.1.1.2; rw [hT.1.2.1] at hp; omega
  obtain ⟨a1, a2, -⟩ := h.2.2.2.2.2.1 p hp6
  unfold mIsL isLB cIsLeft
  rw [← (h.2.2.2.2.2.2 p hp).1, a1, a2]
theorem nI_subI {I l : Nat} (h : l ≤ I) : nI I - nI l = nI (I - l) := by
  have : nI I = nI (I - l) + nI l := by rw [nI_add]; congr 1; omega
  rw [this, Int32.add_sub_cancel]
theorem wfC.left {n : Nat} {c : St} (h : wfC n c) {p : Nat} (hp : p < n) : ∃ L : Nat, cLeft c p = nI L ∧ L ≤ 60 := by
  obtain ⟨I, t, l, a1, a2, a3, a4, a5, -⟩ := h p hp
  refine ⟨I - t - l, ?_, by omega⟩
  unfold cLeft
  rw [a1, a2, a3, nI_subI (by omega), nI_subI (by omega)]
theorem relC.junes {T : Tx} {s c : St} {r p : Nat} (h : relC T s r c) (hT : relT T s.2.1) (hc : wfC (nat (T.1.1 0)) c) (hp : p < nat (T.1.1 0)) : jcF (s.2.1 6) (s.2.1 7) (nI p) (mIsL s r p) (nat (s.2.1 3 1)) = cJunesLeft c p := by
  have hp6 : p < 6 := by have := hT.1.1.2; rw [hT.1.2.1] at hp; omega
  obtain ⟨I, t, l, a1, a2, a3, a4, a5, -⟩ := hc p hp
  obtain ⟨j1, j2, j3, j4, j5⟩ := hT.2.1
  obtain ⟨b1, b2, -⟩ := h.2.2.2.2.2.1 p hp6
  have hI := (h.2.2.2.2.2.2 p hp).1
  have e : mIsL s r p = isLB (nI t) (nI I - nI l) := by
    funext x
    unfold mIsL
    rw [← hI, ← b1, ← b2, a1, a2, a3]
  rw [e, ← junes_eq (fun k hk => (j3 k hk).2) j4 a5 a4]
  unfold cJunesLeft cJunesIn
  rw [(h.2.2.2.2.2.2 p hp).2, j5 p hp6, a1, a2, a3]
theorem bits4 {x : Int32} (h : okN x 4) : bitsF x 30 = bcI x := by
  obtain ⟨h1, h2⟩ := h
  rw [h1]
  generalize nat x = n at *
  have hn : n = 0 ∨ n = 1 ∨ n = 2 ∨ n = 3 := by omega
  rcases hn with rfl | rfl | rfl | rfl <;> decide +kernel
/-- the model's names are the class's leaves -/
def namesR (s : St) (c : St) (p : Nat) (w : Bool) : Prop := ∀ j, j < 7 → ∀ num, s.2.2.1 33 j = ownL c p w (nI (11 + j)) num
theorem ownL_at {c : St} {p : Nat} {w : Bool} {num : Int32} : ownL c p w 11 num = (cLeft c p).toInt64 ∧ ownL c p w 12 num = (bcI (c.2.1 5 p)).toInt64 ∧ ownL c p w 13 num = (cJunesLeft c p).toInt64 ∧ ownL c p w 14 num = iL w ∧ ownL c p w 15 num = (c.2.1 3 p).toInt64 ∧ ownL c p w 16 num = (c.2.1 4 p).toInt64 ∧ ownL c p w 17 num = (c.1 7).toInt64 ∧ ownL c p w (-3) num = num.toInt64 := ⟨rfl, rfl, rfl, rfl, rfl, rfl, rfl, rfl⟩
theorem inR_32 (x : Int32) : inR x.toInt64 = true := by
  unfold inR
  have h1 := x.toInt_lt
  have h2 := x.le_toInt
  have p31 : (2 : Int) ^ 31 = 2147483648 := by decide
  rw [Bool.and_eq_true, decide_eq_true_eq, decide_eq_true_eq]
  constructor
  · intro z
    have := Int64.lt_iff_toInt_lt.mp z
    rw [Int32.toInt_toInt64] at this
    have e : (1000000000000 : Int64).toInt = 1000000000000 := by decide
    omega
  · intro z
    have := Int64.lt_iff_toInt_lt.mp z
    rw [Int32.toInt_toInt64] at this
    have e : (-1000000000000 : Int64).toInt = -1000000000000 := by decide
    omega
theorem inR_own {c : St} {p : Nat} {w : Bool} {k num : Int32} : inR (ownL c p w k num) = true := by
  unfold ownL
  by_cases h11 : k = 11
  · rw [if_pos h11]; exact inR_32 _
  rw [if_neg h11]
  by_cases h12 : k = 12
  · rw [if_pos h12]; exact inR_32 _
  rw [if_neg h12]
  by_cases h13 : k = 13
  · rw [if_pos h13]; exact inR_32 _
  rw [if_neg h13]
  by_cases h14 : k = 14
  · rw [if_pos h14]; cases w <;> decide
  rw [if_neg h14]
  by_cases h15 : k = 15
  · rw [if_pos h15]; exact inR_32 _
  rw [if_neg h15]
  by_cases h16 : k = 16
  · rw [if_pos h16]; exact inR_32 _
  rw [if_neg h16]
  by_cases h17 : k = 17
  · rw [if_pos h17]; exact inR_32 _
  rw [if_neg h17]
  exact inR_32 _
