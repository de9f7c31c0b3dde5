/-! The reading of an expression: the model's state beside the class's -/
/-- what the reading of an expression changes -/
def frQ (s s' : St) : Prop := s'.2.2 = s.2.2 ∧ (∀ j, j ≠ 23 → j ≠ 24 → j ≠ 25 → j ≠ 26 → j ≠ 27 → j ≠ 28 → j ≠ 31 → j ≠ 32 → s'.1 j = s.1 j) ∧ (∀ k, k ≠ 3 → k ≠ 18 → k ≠ 19 → s'.2.1 k = s.2.1 k) ∧ (∀ i, i ≠ 15 → s'.2.1 3 i = s.2.1 3 i) ∧ ∀ i, i < 64 → s'.2.1 18 i = s.2.1 18 i ∧ s'.2.1 19 i = s.2.1 19 i
theorem frQ.rf {s : St} : frQ s s := ⟨rfl, fun _ _ _ _ _ _ _ _ _ => rfl, fun _ _ _ _ => rfl, fun _ _ => rfl, fun _ _ => ⟨rfl, rfl⟩⟩
theorem frQ.tr {s s1 s2 : St} (h : frQ s s1) (k : frQ s1 s2) : frQ s s2 := by
  obtain ⟨h1, h2, h3, h4, h5⟩ := h
  obtain ⟨k1, k2, k3, k4, k5⟩ := k
  exact ⟨k1.trans h1, fun j a b c d e f g i => (k2 j a b c d e f g i).trans (h2 j a b c d e f g i), fun j a b c => (k3 j a b c).trans (h3 j a b c), fun i a => (k4 i a).trans (h4 i a), fun i a => ⟨(k5 i a).1.trans (h5 i a).1, (k5 i a).2.trans (h5 i a).2⟩⟩
theorem frQ.k2 {s s1 s2 : St} (h : frQ s s1) (k : frK2 s1 s2) : frQ s s2 := by
  refine h.tr ⟨by rw [k.1], fun j a b c d _ _ _ _ => k.2 j a b c d, fun j _ _ _ => by rw [k.1], fun i _ => by rw [k.1], fun i _ => by rw [k.1]; exact ⟨rfl, rfl⟩⟩
theorem frQ.i {s s1 : St} {j : Nat} {v : Int32} (h : frQ s s1) (hj : j = 27 ∨ j = 28 ∨ j = 31 ∨ j = 32) : frQ s (mI s1 j v) := by
  refine h.tr ⟨rfl, fun i a b c d e f g z => upd_ne ?_, fun _ _ _ _ => rfl, fun _ _ => rfl, fun _ _ => ⟨rfl, rfl⟩⟩
  rcases hj with rfl | rfl | rfl | rfl <;> assumption
theorem putS_3 {s : St} {p i : Nat} {x v : Int32} : (putS s p x v).2.1 3 i = if i = 15 then nI (p + 1) else s.2.1 3 i := rfl
theorem putS_18 {s : St} {p i : Nat} {x v : Int32} : (putS s p x v).2.1 18 i = if i = 64 + p then x else s.2.1 18 i := rfl
theorem putS_19 {s : St} {p i : Nat} {x v : Int32} : (putS s p x v).2.1 19 i = if i = 64 + p then v else s.2.1 19 i := rfl
theorem putS_ne {s : St} {p k : Nat} {x v : Int32} (h3 : k ≠ 3) (h18 : k ≠ 18) (h19 : k ≠ 19) : (putS s p x v).2.1 k = s.2.1 k := by
  unfold putS
  rw [mA_ne h3, mA_ne h19, mA_ne h18]
theorem frQ.p {s s1 : St} {p : Nat} {x v : Int32} (h : frQ s s1) : frQ s (putS s1 p x v) :=
  h.tr ⟨rfl, fun _ _ _ _ _ _ _ _ _ => rfl, fun k a b c => putS_ne a b c, fun i a => by rw [putS_3, if_neg a], fun i a => ⟨by rw [putS_18, if_neg (by omega)], by rw [putS_19, if_neg (by omega)]⟩⟩
def relQ (b : Nat → Int32) (n : Nat) (s : St) (q : Tk) (L : St) (o : Nat) : Prop := kRel s q ∧ q.1 ≤ n ∧ s.1 22 = nI n ∧ s.2.1 1 = b ∧ s.1 27 = 0 ∧ s.1 32 = L.1 0 ∧ s.1 31 = nI o ∧ s.2.1 3 15 = L.1 1 ∧ (∀ k, k < nat (L.1 1) → knR (L.2.1 2 k) (L.2.1 3 k) (s.2.1 18 (64 + k)) (s.2.1 19 (64 + k))) ∧ s.1 28 = -1
section RelE
variable {b : Nat → Int32} {n o : Nat} {s s2 : St} {q : Tk} {L : St}
theorem relQ.tok (h : relQ b n s q L o) (k : frK2 s s2) (r : kRel s2 (tokN b n q)) : relQ b n s2 (tokN b n q) L o := by
  obtain ⟨h1, h2, h3, h4, h5, h6, h7, h8, h9⟩ := h
  refine ⟨r, tokN_le h2, (k.2 22 (by decide) (by decide) (by decide) (by decide)).trans h3, by rw [k.1]; exact h4, (k.2 27 (by decide) (by decide) (by decide) (by decide)).trans h5, (k.2 32 (by decide) (by decide) (by decide) (by decide)).trans h6, (k.2 31 (by decide) (by decide) (by decide) (by decide)).trans h7, by rw [k.1]; exact h8, fun i hi => by rw [k.1]; exact h9.1 i hi, (k.2 28 (by decide) (by decide) (by decide) (by decide)).trans h9.2⟩
theorem relQ.knot (h : relQ b n s q L o) : relQ b n (mI s 32 (s.1 32 + 1)) q (lKnot L) o := by
  obtain ⟨h1, h2, h3, h4, h5, h6, h7, h8, h9⟩ := h
  exact ⟨h1, h2, h3, h4, h5, by show s.1 32 + 1 = L.1 0 + 1; rw [h6], h7, h8, h9⟩
theorem relQ.opn (h : relQ b n s q L o) : relQ b n (mI s 31 (s.1 31 + 1)) q L (o + 1) := by
  obtain ⟨h1, h2, h3, h4, h5, h6, h7, h8, h9⟩ := h
  exact ⟨h1, h2, h3, h4, h5, h6, by show s.1 31 + 1 = _; rw [h7]; exact nI_1 o, h8, h9⟩
theorem relQ.cls (h : relQ b n s q L (o + 1)) : relQ b n (mI s 31 (s.1 31 - 1)) q L o := by
  obtain ⟨h1, h2, h3, h4, h5, h6, h7, h8, h9⟩ := h
  exact ⟨h1, h2, h3, h4, h5, h6, by show s.1 31 - 1 = _; rw [h7]; exact nI_pred o, h8, h9⟩
theorem relQ.put {k v x y : Int32} (h : relQ b n s q L o) (hb : nat (L.1 1) < 64) (hk : knR k v x y) : relQ b n (putS s (nat (L.1 1)) x y) q (pl L k v) o := by
  obtain ⟨h1, h2, h3, h4, h5, h6, h7, h8, h9⟩ := h
  refine ⟨h1, h2, h3, h4, h5, h6, h7, rfl, fun i hi => ?_, h9.2⟩
  have e : nat ((pl L k v).1 1) = nat (L.1 1) + 1 := by rw [pl_1]; exact nI_clamp (by omega)
  rw [e] at hi
  rw [putS_18, putS_19, show (pl L k v).2.1 2 i = if i = nat (L.1 1) then k else L.2.1 2 i from rfl, show (pl L k v).2.1 3 i = if i = nat (L.1 1) then v else L.2.1 3 i from rfl]
  by_cases z : i = nat (L.1 1)
  · rw [if_pos z, if_pos z, if_pos (by omega), if_pos (by omega)]; exact hk
  · rw [if_neg z, if_neg z, if_neg (by omega), if_neg (by omega)]; exact h9.1 i (by omega)
theorem relQ.isS (h : relQ b n s q L o) {j : Nat} (hj : j < 13) {c k : Int32} (hc : c = sgT j) (hk : k = nI (30 + j)) : (s.1 27 = 0 ∧ s.1 25 = 3 ∧ s.1 26 = c) ↔ q.2.1 = k := by
  have := kR_sign h.1.2.2 hj
  rw [hc, hk, ← this]
  exact ⟨fun z => z.2, fun z => ⟨h.2.2.2.2.1, z⟩⟩
theorem relQ.isW (h : relQ b n s q L o) {j : Nat} (hj : j < 21) {c k : Int32} (hc : c = nI j) (hk : k = nI (permW j)) : (s.1 27 = 0 ∧ s.1 25 = 0 ∧ s.1 26 = c) ↔ q.2.1 = k := by
  have := kR_word h.1.2.2 hj
  rw [hc, hk, ← this]
  exact ⟨fun z => z.2, fun z => ⟨h.2.2.2.2.1, z⟩⟩
theorem relQ.goOn {d n0 a : Nat} {κ : Kd} {h0 : Hp} (h : relQ b n s q L o) (hd : 8 ≤ d) (hn : n ≤ 700) (hbb : ∀ k, k < n → ¬ b k = -1 ∧ b k < 256) : MV MX12_goOn (d, 0, 0, n0, κ) a h0 s 0 [some (.ref a)] [] (fun v s' => v = none ∧ frK2 s s' ∧ relQ b n s' (tokN b n q) L o) := by
  refine MV.post (fun v s' z => ⟨z.1, z.2.1, h.tok z.2.1 (by have := z.2.2; rwa [h.2.2.2.1] at this)⟩) (goOn0_M hd h.2.2.1 h.1.1 hn h.2.1 (by rw [h.2.2.2.1]; exact hbb) h.2.2.2.2.1)
theorem relQ.token {d n0 a : Nat} {κ : Kd} {h0 : Hp} (h : relQ b n s q L o) (hd : 7 ≤ d) (hn : n ≤ 700) (hbb : ∀ k, k < n → ¬ b k = -1 ∧ b k < 256) : MV MX12_token (d, 0, 0, n0, κ) a h0 s 0 [some (.ref a), none] [] (fun v s' => v = none ∧ frK2 s s' ∧ relQ b n s' (tokN b n q) L o) := by
  refine MV.post (fun v s' z => ⟨z.1, z.2.1, h.tok z.2.1 (by have := z.2.2; rwa [h.2.2.2.1] at this)⟩) (tok_M hd h.2.2.1 h.1.1 hn h.2.1 (by rw [h.2.2.2.1]; exact hbb))
end RelE
/-- a FAULT is told: what, where -/
def FT (b : Nat → Int32) (n F : Nat) (m : Bool) (S : PS) (s' : St) : Prop := ∃ c p, ¬ c = 0 ∧ NO b n F true m S c p ∧ s'.1 27 = c ∧ s'.1 28 = p
theorem FT.ne {b : Nat → Int32} {n F : Nat} {m : Bool} {S : PS} {s' : St} (h : FT b n F m S s') : ¬ s'.1 27 = 0 := by
  obtain ⟨c, p, h1, h2, h3, h4⟩ := h
  rw [h3]
  exact h1
theorem FT.of {b : Nat → Int32} {n F G : Nat} {m m2 : Bool} {S S2 : PS} {s' : St} (e : exprP b n F true m S = exprP b n G true m2 S2) (h : FT b n G m2 S2 s') : FT b n F m S s' := by
  obtain ⟨c, p, h1, h2, h3⟩ := h
  exact ⟨c, p, h1, NO.of e h2, h3⟩
theorem FT.w {b : Nat → Int32} {n F o : Nat} {m : Bool} {S : PS} {s : St} {q : Tk} {L : St} {c : Int32} (h : relQ b n s q L o) (hc : ¬ c = 0) (hn : NO b n F true m S c (nI q.2.2.1)) : FT b n F m S (mI (mI s 27 c) 28 (s.1 24)) :=
  ⟨c, _, hc, hn, rfl, h.1.2.1⟩
def XP (b : Nat → Int32) (n : Nat) (C : Cx) (F : Nat) (m : Bool) (q : Tk) (L : St) (W : List Int32) (o : Nat) (lv : Int32) (s : St) : Option Value → St → Prop := fun v s' => v = none ∧ frQ s s' ∧ (FT b n F m (mkS C q L W o) s' ∨ ∃ q1 L1 L2 W2 F2, PR b n C F m q L W o lv q1 L1 L2 W2 F2 ∧ stO lv q1 L2 W2 ∧ relQ b n s' q1 L1 o)
/-- a level's contract, for what is nearer to the end than N -/
def XC (κ : Kd) (n0 a : Nat) (h0 : Hp) (b : Nat → Int32) (n : Nat) (C : Cx) (Y : Yd) (c : Nat) (lv : Int32) (lx : List (Option Value)) (N : Nat) : Prop := ∀ (d : Nat) (s : St) (F : Nat) (m : Bool) (q : Tk) (L : St) (W : List Int32) (o : Nat), mu n q < N → relQ b n s q L o → okL L W o → mu n q ≤ F → 7 * (8 - o) + (64 - nat (L.1 0)) + c ≤ d → (lv < 5 → m = true) → (5 ≤ lv → m = true → ¬ q.2.1 = 20) → (∀ x r, W = x :: r → lvl x < (if lv = 3 then 4 else lv)) → MV Y (d, 0, 0, n0, κ) a h0 s 0 (some (.ref a) :: lx) [] (XP b n C F m q L W o lv s)
