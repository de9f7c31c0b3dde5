/-! bits are counted; JUNES LEFT by the row and by bits (the first rows are the kit's BITS, pasted) -/
theorem wb_tb (n : Nat) : (lN n).toBitVec = BitVec.ofNat 64 n := rfl
theorem wb_inj {a b : Int64} (h : a.toBitVec = b.toBitVec) : a = b := Int64.toBitVec_inj.mp h
theorem wb_tn {n : Nat} (h : n < 2 ^ 64) : (lN n).toBitVec.toNat = n := by rw [wb_tb, BitVec.toNat_ofNat, Nat.mod_eq_of_lt h]
theorem wb_of (x : Int64) : ∃ n, n < 2 ^ 64 ∧ x = lN n := ⟨x.toBitVec.toNat, x.toBitVec.isLt, wb_inj (by rw [wb_tb]; simp)⟩
theorem wb_of32 (x : Int32) : ∃ n, n < 2 ^ 32 ∧ x = nI n := ⟨x.toBitVec.toNat, x.toBitVec.isLt, Int32.toBitVec_inj.mp (by show _ = BitVec.ofNat 32 _; simp)⟩
theorem wb_c : ∀ k, k < 64 → ((nI k).toInt64 &&& 63) = lN k := by decide +kernel
theorem wb_cu : ∀ k, k < 64 → ((nI k).toInt64.toUInt64 &&& Int64.toUInt64 63) = UInt64.ofNat k := by decide +kernel
theorem wb_sm : ∀ k, k < 64 → (BitVec.ofNat 64 k).smod 64 = BitVec.ofNat 64 k := by decide +kernel
theorem wb_pw {a b : Nat} (h : a ≤ b) : 2 ^ b = 2 ^ a * 2 ^ (b - a) := by rw [← Nat.pow_add]; congr 1; omega
theorem wb_lt2 {a b : Nat} (h : a < b) : 2 ^ a < 2 ^ b := Nat.pow_lt_pow_right (by decide) h
theorem wb_mod (n : Nat) : lN n = lN (n % 2 ^ 64) := wb_inj (by rw [wb_tb, wb_tb]; apply BitVec.eq_of_toNat_eq; rw [BitVec.toNat_ofNat, BitVec.toNat_ofNat, Nat.mod_mod])
theorem wb_shr {n k : Nat} (hn : n < 2 ^ 64) (hk : k < 64) : ((lN n).toUInt64 >>> ((nI k).toInt64.toUInt64 &&& Int64.toUInt64 63)).toInt64 = lN (n / 2 ^ k) := by
  rw [wb_cu k hk]
  apply wb_inj
  apply BitVec.eq_of_toNat_eq
  show ((lN n).toUInt64 >>> UInt64.ofNat k).toNat = (BitVec.ofNat 64 _).toNat
  have h1 : (UInt64.ofNat k).toNat = k := by
    show (BitVec.ofNat 64 k).toNat = k
    rw [BitVec.toNat_ofNat, Nat.mod_eq_of_lt (by omega)]
  have h2 : (lN n).toUInt64.toNat = n := wb_tn hn
  rw [UInt64.toNat_shiftRight, h1, h2, Nat.mod_eq_of_lt hk, Nat.shiftRight_eq_div_pow, BitVec.toNat_ofNat, Nat.mod_eq_of_lt (Nat.lt_of_le_of_lt (Nat.div_le_self _ _) hn)]
theorem wb_shl (n : Nat) {k : Nat} (hk : k < 64) : lN n <<< ((nI k).toInt64 &&& 63) = lN (n * 2 ^ k) := by
  rw [wb_c k hk]
  apply wb_inj
  rw [Int64.toBitVec_shiftLeft, wb_tb, wb_tb, wb_tb, wb_sm k hk]
  apply BitVec.eq_of_toNat_eq
  rw [BitVec.shiftLeft_eq', BitVec.toNat_shiftLeft, BitVec.toNat_ofNat, BitVec.toNat_ofNat, BitVec.toNat_ofNat, Nat.mod_eq_of_lt (show k < 2 ^ 64 by omega), Nat.shiftLeft_eq, Nat.mul_mod, Nat.mod_mod, ← Nat.mul_mod]
theorem wb_and {a b : Nat} (ha : a < 2 ^ 64) (hb : b < 2 ^ 64) : lN a &&& lN b = lN (a &&& b) := by
  apply wb_inj
  rw [Int64.toBitVec_and, wb_tb, wb_tb, wb_tb]
  apply BitVec.eq_of_toNat_eq
  rw [BitVec.toNat_and, BitVec.toNat_ofNat, BitVec.toNat_ofNat, BitVec.toNat_ofNat, Nat.mod_eq_of_lt ha, Nat.mod_eq_of_lt hb, Nat.mod_eq_of_lt (Nat.and_lt_two_pow _ hb)]
theorem wb_or {a b : Nat} (ha : a < 2 ^ 64) (hb : b < 2 ^ 64) : lN a ||| lN b = lN (a ||| b) := by
  apply wb_inj
  rw [Int64.toBitVec_or, wb_tb, wb_tb, wb_tb]
  apply BitVec.eq_of_toNat_eq
  rw [BitVec.toNat_or, BitVec.toNat_ofNat, BitVec.toNat_ofNat, BitVec.toNat_ofNat, Nat.mod_eq_of_lt ha, Nat.mod_eq_of_lt hb, Nat.mod_eq_of_lt (Nat.or_lt_two_pow ha hb)]
theorem wb_mask {n k : Nat} (hn : n < 2 ^ 64) (hk : k < 64) : lN n &&& lN (2 ^ k - 1) = lN (n % 2 ^ k) := by
  rw [wb_and hn (by have := wb_lt2 hk; omega), Nat.and_two_pow_sub_one_eq_mod]
theorem wb_a1 {n : Nat} (hn : n < 2 ^ 64) : lN n &&& 1 = lN (n % 2) := wb_mask (k := 1) hn (by decide)
theorem nx_and (a b : Nat) : nI a &&& nI b = nI (a &&& b) := by
  apply Int32.toBitVec_inj.1
  show BitVec.ofNat 32 a &&& BitVec.ofNat 32 b = BitVec.ofNat 32 (a &&& b)
  apply BitVec.eq_of_getLsbD_eq
  intro i hi
  simp [hi]

theorem and256 {a x c y : Nat} (ha : a < 256) (hc : c < 256) : (a + 256 * x) &&& (c + 256 * y) = (a &&& c) + 256 * (x &&& y) := by
  have hac : a &&& c < 2 ^ 8 := Nat.and_lt_two_pow _ hc
  apply Nat.eq_of_testBit_eq
  intro j
  rw [Nat.testBit_and, show a + 256 * x = 2 ^ 8 * x + a by omega, show c + 256 * y = 2 ^ 8 * y + c by omega, show (a &&& c) + 256 * (x &&& y) = 2 ^ 8 * (x &&& y) + (a &&& c) by omega,
    Nat.testBit_two_pow_mul_add _ (i := 8) ha, Nat.testBit_two_pow_mul_add _ (i := 8) hc, Nat.testBit_two_pow_mul_add _ (i := 8) hac]
  split <;> rw [Nat.testBit_and]
def mk8 (c : Nat) : Nat → Nat
  | 0 => 0
  | j + 1 => c + 256 * mk8 c j
def pb1 (j n : Nat) : Nat := n - (n / 2 &&& mk8 85 j)
def pb2 (j n : Nat) : Nat := (n &&& mk8 51 j) + (n / 4 &&& mk8 51 j)
def pb3 (j n : Nat) : Nat := (n + n / 16) &&& mk8 15 j
def by1 (a : Nat) : Nat := a - (a / 2 &&& 85)
def by2 (a : Nat) : Nat := (a &&& 51) + (a / 4 &&& 51)
def by3 (a : Nat) : Nat := (a + a / 16) &&& 15
def byT (a : Nat) : Nat := by3 (by2 (by1 a))
set_option maxRecDepth 100000 in
theorem by_c1 : ∀ a, a < 256 → ∀ e, e < 2 → ((a / 2 + 128 * e) &&& 85) = (a / 2 &&& 85) ∧ (a / 2 &&& 85) ≤ a ∧ by1 a < 256 := by decide +kernel
set_option maxRecDepth 100000 in
theorem by_c2 : ∀ a, a < 256 → ∀ e, e < 4 → ((a / 4 + 64 * e) &&& 51) = (a / 4 &&& 51) ∧ by2 a < 256 := by decide +kernel
set_option maxRecDepth 100000 in
theorem by_c3 : ∀ a, a < 256 → ∀ e, e < 5 → ((by2 (by1 a) + by2 (by1 a) / 16 + 16 * e) &&& 15) = byT a ∧ by2 (by1 a) + by2 (by1 a) / 16 + 16 * e < 256 ∧ by2 (by1 a) % 16 < 5 ∧ byT a ≤ 8 := by decide +kernel
theorem pb1_s {a b j : Nat} (ha : a < 256) : pb1 (j + 1) (a + 256 * b) = by1 a + 256 * pb1 j b := by
  unfold pb1 by1
  have h := by_c1 a ha (b % 2) (by omega)
  rw [show (a + 256 * b) / 2 = (a / 2 + 128 * (b % 2)) + 256 * (b / 2) by omega, mk8, and256 (by omega) (by decide), h.1]
  have : b / 2 &&& mk8 85 j ≤ b / 2 := Nat.and_le_left
  omega
theorem pb2_s {a b j : Nat} (ha : a < 256) : pb2 (j + 1) (a + 256 * b) = by2 a + 256 * pb2 j b := by
  unfold pb2 by2
  have h := by_c2 a ha (b % 4) (by omega)
  rw [show (a + 256 * b) / 4 = (a / 4 + 64 * (b % 4)) + 256 * (b / 4) by omega, mk8, and256 ha (by decide), and256 (by omega) (by decide), h.1]
  omega
theorem pb_low {j n : Nat} (hn : n < 256 ^ j) : pb2 j (pb1 j n) % 16 < 5 := by
  cases j with
  | zero => rw [show n = 0 by simpa using hn]; decide
  | succ j =>
    rw [show n = n % 256 + 256 * (n / 256) by omega, pb1_s (by omega), pb2_s (by_c1 (n % 256) (by omega) 0 (by omega)).2.2]
    have := (by_c3 (n % 256) (by omega) 0 (by omega)).2.2.1
    omega
theorem pb_s {a b j : Nat} (ha : a < 256) (hb : b < 256 ^ j) : pb3 (j + 1) (pb2 (j + 1) (pb1 (j + 1) (a + 256 * b))) = byT a + 256 * pb3 j (pb2 j (pb1 j b)) := by
  rw [pb1_s ha, pb2_s (by_c1 a ha 0 (by omega)).2.2]
  generalize hv : pb2 j (pb1 j b) = v
  have hl : v % 16 < 5 := by rw [← hv]; exact pb_low hb
  have h := by_c3 a ha (v % 16) hl
  have h2 := (by_c2 (by1 a) (by_c1 a ha 0 (by omega)).2.2 0 (by omega)).2
  unfold pb3
  rw [show by2 (by1 a) + 256 * v + (by2 (by1 a) + 256 * v) / 16 = (by2 (by1 a) + by2 (by1 a) / 16 + 16 * (v % 16)) + 256 * (v + v / 16) by omega, mk8, and256 h.2.1 (by decide), h.1]
def pcS : Nat → Nat → Nat
  | 0, _ => 0
  | j + 1, n => byT (n % 256) + pcS j (n / 256)
def pcW : Nat → Nat → Nat
  | 0, _ => 0
  | j + 1, n => byT (n % 256) + 256 * pcW j (n / 256)
theorem pb_w : ∀ (j n : Nat), n < 256 ^ j → pb3 j (pb2 j (pb1 j n)) = pcW j n := by
  intro j
  induction j with
  | zero => intro n hn; rw [show n = 0 by simpa using hn]; decide
  | succ j ih =>
    intro n hn
    have hb : n / 256 < 256 ^ j := by rw [Nat.pow_succ] at hn; omega
    rw [show pb1 (j + 1) n = pb1 (j + 1) (n % 256 + 256 * (n / 256)) by congr 1; omega, pb_s (by omega) hb, ih _ hb, pcW]
theorem pc_final {n : Nat} : ((pcW 8 n + pcW 8 n / 256) + (pcW 8 n + pcW 8 n / 256) / 65536 + ((pcW 8 n + pcW 8 n / 256) + (pcW 8 n + pcW 8 n / 256) / 65536) / 4294967296) % 128 = pcS 8 n := by
  have hb : ∀ m, byT (m % 256) ≤ 8 := fun m => (by_c3 (m % 256) (by omega) 0 (by omega)).2.2.2
  simp only [pcW, pcS]
  have h0 := hb n
  have h1 := hb (n / 256)
  have h2 := hb (n / 256 / 256)
  have h3 := hb (n / 256 / 256 / 256)
  have h4 := hb (n / 256 / 256 / 256 / 256)
  have h5 := hb (n / 256 / 256 / 256 / 256 / 256)
  have h6 := hb (n / 256 / 256 / 256 / 256 / 256 / 256)
  have h7 := hb (n / 256 / 256 / 256 / 256 / 256 / 256 / 256)
  generalize byT (n % 256) = b0 at *
  generalize byT (n / 256 % 256) = b1 at *
  generalize byT (n / 256 / 256 % 256) = b2 at *
  generalize byT (n / 256 / 256 / 256 % 256) = b3 at *
  generalize byT (n / 256 / 256 / 256 / 256 % 256) = b4 at *
  generalize byT (n / 256 / 256 / 256 / 256 / 256 % 256) = b5 at *
  generalize byT (n / 256 / 256 / 256 / 256 / 256 / 256 % 256) = b6 at *
  generalize byT (n / 256 / 256 / 256 / 256 / 256 / 256 / 256 % 256) = b7 at *
  generalize hW : b0 + 256 * (b1 + 256 * (b2 + 256 * (b3 + 256 * (b4 + 256 * (b5 + 256 * (b6 + 256 * (b7 + 256 * 0))))))) = w
  have q1 : w / 256 = b1 + 256 * (b2 + 256 * (b3 + 256 * (b4 + 256 * (b5 + 256 * (b6 + 256 * b7))))) := by omega
  generalize hX : w + w / 256 = x
  have hX2 : x = (b0 + b1) + 256 * ((b1 + b2) + 256 * ((b2 + b3) + 256 * ((b3 + b4) + 256 * ((b4 + b5) + 256 * ((b5 + b6) + 256 * ((b6 + b7) + 256 * b7)))))) := by omega
  clear hW hX q1
  have q2 : x / 65536 = (b2 + b3) + 256 * ((b3 + b4) + 256 * ((b4 + b5) + 256 * ((b5 + b6) + 256 * ((b6 + b7) + 256 * b7)))) := by omega
  generalize hY : x + x / 65536 = y
  have hY2 : y = (b0 + b1 + b2 + b3) + 256 * ((b1 + b2 + b3 + b4) + 256 * ((b2 + b3 + b4 + b5) + 256 * ((b3 + b4 + b5 + b6) + 256 * ((b4 + b5 + b6 + b7) + 256 * ((b5 + b6 + b7) + 256 * ((b6 + b7) + 256 * b7)))))) := by omega
  clear hX2 q2 hY
  have q3 : y / 4294967296 = (b4 + b5 + b6 + b7) + 256 * ((b5 + b6 + b7) + 256 * ((b6 + b7) + 256 * b7)) := by omega
  have q4 : y + y / 4294967296 = (b0 + b1 + b2 + b3 + b4 + b5 + b6 + b7) + 128 * (2 * ((b1 + b2 + b3 + b4 + b5 + b6 + b7) + 256 * ((b2 + b3 + b4 + b5 + b6 + b7) + 256 * ((b3 + b4 + b5 + b6 + b7) + 256 * ((b4 + b5 + b6 + b7) + 256 * ((b5 + b6 + b7) + 256 * ((b6 + b7) + 256 * b7))))))) := by omega
  omega
theorem usL_N {n k : Nat} (hn : n < 2 ^ 64) (hk : k < 64) : usL (lN n) (nI k) = lN (n / 2 ^ k) := wb_shr hn hk
theorem bcL_pc {n : Nat} (hn : n < 2 ^ 64) : bcL (lN n) = nI (pcS 8 n) := by
  have d2 : n / 2 < 2 ^ 64 := by omega
  have hm85 : (6148914691236517205 : Int64) = lN (mk8 85 8) := by decide +kernel
  have hm51 : (3689348814741910323 : Int64) = lN (mk8 51 8) := by decide +kernel
  have hm15 : (1085102592571150095 : Int64) = lN (mk8 15 8) := by decide +kernel
  have hk85 : mk8 85 8 < 2 ^ 64 := by decide
  have hk51 : mk8 51 8 < 2 ^ 64 := by decide
  have hk15 : mk8 15 8 < 2 ^ 64 := by decide
  have e1 : bcL1 (lN n) = lN (pb1 8 n) := by
    unfold bcL1 pb1
    rw [show (1 : Int32) = nI 1 by decide, usL_N hn (by omega), hm85, wb_and (by omega) hk85]
    have : n / 2 ^ 1 &&& mk8 85 8 ≤ n / 2 ^ 1 := Nat.and_le_left
    rw [lN_sub (by omega)]
  have l1 : pb1 8 n < 2 ^ 64 := by unfold pb1; omega
  have e2 : bcL2 (lN (pb1 8 n)) = lN (pb2 8 (pb1 8 n)) := by
    unfold bcL2 pb2
    rw [show (2 : Int32) = nI 2 by decide, usL_N l1 (by omega), hm51, wb_and l1 hk51, wb_and (by omega) hk51, lN_add]
  have hw := pb_w 8 n hn
  have l2 : pb2 8 (pb1 8 n) < 2 ^ 64 := by
    have a1 : pb1 8 n &&& mk8 51 8 ≤ mk8 51 8 := Nat.and_le_right
    have a2 : pb1 8 n / 4 &&& mk8 51 8 ≤ mk8 51 8 := Nat.and_le_right
    have a3 : mk8 51 8 = 3689348814741910323 := by decide
    unfold pb2
    omega
  have l2b : pb2 8 (pb1 8 n) + pb2 8 (pb1 8 n) / 16 < 2 ^ 64 := by
    have a1 : pb1 8 n &&& mk8 51 8 ≤ mk8 51 8 := Nat.and_le_right
    have a2 : pb1 8 n / 4 &&& mk8 51 8 ≤ mk8 51 8 := Nat.and_le_right
    have a3 : mk8 51 8 = 3689348814741910323 := by decide
    unfold pb2
    omega
  have e3 : bcL3 (lN (pb2 8 (pb1 8 n))) = lN (pcW 8 n) := by
    rw [← hw]
    unfold bcL3 pb3
    rw [show (4 : Int32) = nI 4 by decide, usL_N l2 (by omega), lN_add, hm15, wb_and l2b hk15]
  have l3 : pcW 8 n < 2 ^ 60 := by
    rw [← hw]
    have a1 : pb3 8 (pb2 8 (pb1 8 n)) ≤ mk8 15 8 := Nat.and_le_right
    have a3 : mk8 15 8 = 1085102592571150095 := by decide
    omega
  generalize hW : pcW 8 n = w at *
  have e4 : bcL4 (lN w) = lN (w + w / 256) := by
    unfold bcL4
    rw [show (8 : Int32) = nI 8 by decide, usL_N (by omega) (by omega), lN_add]
  have e5 : bcL5 (lN (w + w / 256)) = lN ((w + w / 256) + (w + w / 256) / 65536) := by
    unfold bcL5
    rw [show (16 : Int32) = nI 16 by decide, usL_N (by omega) (by omega), lN_add]
  have e6 : bcL6 (lN ((w + w / 256) + (w + w / 256) / 65536)) = lN ((w + w / 256) + (w + w / 256) / 65536 + ((w + w / 256) + (w + w / 256) / 65536) / 4294967296) := by
    unfold bcL6
    rw [show (32 : Int32) = nI 32 by decide, usL_N (by omega) (by omega), lN_add]
  unfold bcL
  rw [e1, e2, e3, e4, e5, e6, lN_i, show (127 : Int32) = nI (2 ^ 7 - 1) by decide, nx_and, Nat.and_two_pow_sub_one_eq_mod]
  have := pc_final (n := n)
  rw [hW] at this
  exact congrArg nI this
set_option maxRecDepth 100000 in
theorem by_bit : ∀ a, a < 256 → ∀ b, b < 8 → a.testBit b = false → byT (a + 2 ^ b) = byT a + 1 ∧ a + 2 ^ b < 256 := by decide +kernel
theorem pcS_bit : ∀ (j n b : Nat), b < 8 * j → n.testBit b = false → pcS j (n + 2 ^ b) = pcS j n + 1 := by
  intro j
  induction j with
  | zero => intro n b hb; omega
  | succ j ih =>
    intro n b hb ht
    unfold pcS
    by_cases h : b < 8
    · have hm : (n % 256).testBit b = false := by
        rw [show 256 = 2 ^ 8 by rfl, Nat.testBit_mod_two_pow, ht]; simp
      have hx := by_bit (n % 256) (by omega) b h hm
      have e0 : ∀ g, n % 256 + g < 256 → (n + g) % 256 = n % 256 + g ∧ (n + g) / 256 = n / 256 := fun g hg => by omega
      have e1 := (e0 _ hx.2).1
      have e2 := (e0 _ hx.2).2
      rw [e1, e2, hx.1]
      omega
    · obtain ⟨c, rfl⟩ : ∃ c, b = c + 8 := ⟨b - 8, by omega⟩
      have hp : 2 ^ (c + 8) = 256 * 2 ^ c := by rw [Nat.pow_add]; omega
      have e1 : (n + 2 ^ (c + 8)) % 256 = n % 256 := by rw [hp]; omega
      have e2 : (n + 2 ^ (c + 8)) / 256 = n / 256 + 2 ^ c := by rw [hp]; omega
      have ht2 : (n / 256).testBit c = false := by
        rw [show 256 = 2 ^ 8 by rfl, ← Nat.shiftRight_eq_div_pow, Nat.testBit_shiftRight, Nat.add_comm]; exact ht
      rw [e1, e2, ih _ c (by omega) ht2]
      omega
/-- the JUNES of one, as the class has them (bits) -/
def juneF (jo ja : Nat → Int32) (p : Int32) : Nat → Int64
  | 0 => 0
  | k + 1 => if jo k = p then juneF jo ja p k ||| (1 <<< ((ja k).toInt64 &&& 63)) else juneF jo ja p k
def xJ (jo ja : Nat → Int32) (p : Int32) (t : Int32 → Bool) : Nat → Nat
  | 0 => 0
  | k + 1 => if jo k = p ∧ t (ja k) = true then xJ jo ja p t k + 2 ^ nat (ja k) else xJ jo ja p t k
theorem tw64 : ∀ m, m < 64 → ((1 : Int64) <<< ((nI m).toInt64 &&& 63)).toBitVec = BitVec.twoPow 64 m := by decide +kernel
set_option maxRecDepth 100000 in
theorem mk64 : ∀ e, e < 61 → ∀ i, i < 64 → ((1 : Int64) <<< ((nI e).toInt64 &&& 63) - 1).toBitVec.getLsbD i = decide (i < e) := by decide +kernel
set_option maxRecDepth 100000 in
theorem mn64 : ∀ e, e < 61 → ∀ i, i < 64 → (((1 : Int64) <<< ((nI e).toInt64 &&& 63) - 1) ^^^ (-1)).toBitVec.getLsbD i = !decide (i < e) := by decide +kernel
def hasJ (jo ja : Nat → Int32) (p : Int32) (t : Int32 → Bool) (n i : Nat) : Prop := ∃ k, k < n ∧ jo k = p ∧ t (ja k) = true ∧ nat (ja k) = i
theorem hasJ_s {jo ja : Nat → Int32} {p : Int32} {t : Int32 → Bool} {n i : Nat} : hasJ jo ja p t (n + 1) i ↔ hasJ jo ja p t n i ∨ (jo n = p ∧ t (ja n) = true ∧ nat (ja n) = i) := by
  constructor
  · rintro ⟨k, h1, h2⟩
    by_cases q : k = n
    · subst q; exact Or.inr h2
    · exact Or.inl ⟨k, by omega, h2⟩
  · rintro (⟨k, h1, h2⟩ | h)
    · exact ⟨k, by omega, h2⟩
    · exact ⟨n, by omega, h⟩
theorem juneF_bit {jo ja : Nat → Int32} {p : Int32} : ∀ (n : Nat), (∀ k, k < n → okN (ja k) 60) → ∀ i, i < 64 → ((juneF jo ja p n).toBitVec.getLsbD i = true ↔ hasJ jo ja p (fun _ => true) n i) := by
  intro n
  induction n with
  | zero =>
    intro h i hi
    constructor
    · intro z
      have : (juneF jo ja p 0).toBitVec.getLsbD i = false := by show (0#64).getLsbD i = false; simp
      rw [this] at z; cases z
    · rintro ⟨k, h1, _⟩; omega
  | succ n ih =>
    intro h i hi
    have ih' := ih (fun k hk => h k (by omega)) i hi
    rw [hasJ_s]
    unfold juneF
    obtain ⟨g1, g2⟩ := h n (by omega)
    by_cases q : jo n = p
    · rw [if_pos q, Int64.toBitVec_or, BitVec.getLsbD_or, Bool.or_eq_true, ih']
      rw [g1, tw64 _ (by omega), BitVec.getLsbD_twoPow]
      simp only [Bool.and_eq_true, decide_eq_true_eq]
      constructor
      · rintro (z | ⟨z1, z2⟩)
        · exact Or.inl z
        · exact Or.inr ⟨q, trivial, by rw [← g1]; exact z2⟩
      · rintro (z | ⟨_, _, z⟩)
        · exact Or.inl z
        · exact Or.inr ⟨by omega, by rw [← g1] at z; exact z⟩
    · rw [if_neg q, ih']
      constructor
      · exact Or.inl
      · rintro (z | ⟨z, _⟩)
        · exact z
        · exact absurd z q
def apartJ (jo ja : Nat → Int32) (n : Nat) : Prop := ∀ j k, j < k → k < n → ¬ (jo j = jo k ∧ ja j = ja k)
theorem or_add_bit {x m : Nat} (h : x.testBit m = false) : x + 2 ^ m = x ||| 2 ^ m := by
  have hR : x % 2 ^ (m + 1) < 2 ^ m := by
    apply Nat.lt_pow_two_of_testBit
    intro i hi
    rw [Nat.testBit_mod_two_pow]
    by_cases q : i = m
    · rw [q, h, Bool.and_false]
    · rw [decide_eq_false (by omega), Bool.false_and]
  have hp : 2 ^ (m + 1) = 2 * 2 ^ m := by rw [Nat.pow_succ]; omega
  have hx := Nat.div_add_mod x (2 ^ (m + 1))
  generalize x / 2 ^ (m + 1) = Q at *
  generalize x % 2 ^ (m + 1) = R at *
  have e1 : 2 ^ (m + 1) * Q + R = 2 ^ (m + 1) * Q ||| R := Nat.two_pow_add_eq_or_of_lt (by omega) _
  have e2 : 2 ^ (m + 1) * Q + (2 ^ m + R) = 2 ^ (m + 1) * Q ||| (2 ^ m + R) := Nat.two_pow_add_eq_or_of_lt (by omega) _
  have e3 : 2 ^ m + R = 2 ^ m ||| R := by
    have := Nat.two_pow_add_eq_or_of_lt (i := m) (b := R) hR 1
    rwa [Nat.mul_one] at this
  rw [← hx, show 2 ^ (m + 1) * Q + R + 2 ^ m = 2 ^ (m + 1) * Q + (2 ^ m + R) by omega, e2, e1, e3, Nat.or_assoc, Nat.or_comm R]
theorem xJ_bit {jo ja : Nat → Int32} {p : Int32} {t : Int32 → Bool} : ∀ (n : Nat), (∀ k, k < n → okN (ja k) 60) → apartJ jo ja n → xJ jo ja p t n < 2 ^ 64 ∧ ∀ i, ((xJ jo ja p t n).testBit i = true ↔ hasJ jo ja p t n i) := by
  intro n
  induction n with
  | zero =>
    intro h ha
    refine ⟨show (0 : Nat) < 2 ^ 64 by decide, fun i => ?_⟩
    constructor
    · intro z; simp [xJ] at z
    · rintro ⟨k, h1, _⟩; omega
  | succ n ih =>
    intro h ha
    obtain ⟨i1, i2⟩ := ih (fun k hk => h k (by omega)) (fun j k h1 h2 => ha j k h1 (by omega))
    obtain ⟨g1, g2⟩ := h n (by omega)
    unfold xJ
    by_cases q : jo n = p ∧ t (ja n) = true
    · rw [if_pos q]
      have hb : (xJ jo ja p t n).testBit (nat (ja n)) = false := by
        cases hx : (xJ jo ja p t n).testBit (nat (ja n)) with
        | false => rfl
        | true =>
          obtain ⟨k, k1, k2, k3, k4⟩ := (i2 _).mp hx
          exact absurd ⟨k2.trans q.1.symm, by rw [(h k (by omega)).1, g1, k4]⟩ (ha k n k1 (by omega))
      have hor := or_add_bit hb
      refine ⟨?_, fun i => ?_⟩
      · rw [hor]; exact Nat.or_lt_two_pow i1 (Nat.pow_lt_pow_right (by decide) (by omega))
      · rw [hor, Nat.testBit_or, Nat.testBit_two_pow, Bool.or_eq_true, i2 i, hasJ_s, decide_eq_true_eq]
        constructor
        · rintro (z | z)
          · exact Or.inl z
          · exact Or.inr ⟨q.1, q.2, z⟩
        · rintro (z | ⟨_, _, z⟩)
          · exact Or.inl z
          · exact Or.inr z
    · rw [if_neg q]
      refine ⟨i1, fun i => ?_⟩
      rw [i2 i, hasJ_s]
      constructor
      · exact Or.inl
      · rintro (z | ⟨z1, z2, _⟩)
        · exact z
        · exact absurd ⟨z1, z2⟩ q
theorem xJ_count {jo ja : Nat → Int32} {p : Int32} {t : Int32 → Bool} : ∀ (n : Nat), (∀ k, k < n → okN (ja k) 60) → apartJ jo ja n → nI (pcS 8 (xJ jo ja p t n)) = jcF jo ja p t n := by
  intro n
  induction n with
  | zero => intro _ _; exact (show nI (pcS 8 0) = 0 by decide)
  | succ n ih =>
    intro h ha
    have ih' := ih (fun k hk => h k (by omega)) (fun j k h1 h2 => ha j k h1 (by omega))
    obtain ⟨g1, g2⟩ := h n (by omega)
    unfold xJ jcF
    by_cases q : jo n = p ∧ t (ja n) = true
    · rw [if_pos q, if_pos q]
      have hb : (xJ jo ja p t n).testBit (nat (ja n)) = false := by
        cases hx : (xJ jo ja p t n).testBit (nat (ja n)) with
        | false => rfl
        | true =>
          obtain ⟨k, k1, k2, k3, k4⟩ := ((xJ_bit n (fun k hk => h k (by omega)) (fun j k h1 h2 => ha j k h1 (by omega))).2 _).mp hx
          exact absurd ⟨k2.trans q.1.symm, by rw [(h k (by omega)).1, g1, k4]⟩ (ha k n k1 (by omega))
      rw [pcS_bit 8 _ _ (by omega) hb, ← ih', nI_1]
    · rw [if_neg q, if_neg q, ih']
      exact (Int32.add_zero _).symm
/-- JUNES LEFT: by bits as by the row -/
theorem junes_eq {jo ja : Nat → Int32} {p : Int32} {n I t l : Nat} (h : ∀ k, k < n → okN (ja k) 60) (ha : apartJ jo ja n) (hI : I ≤ 60) (hl : t + l ≤ I) :
    bcL ((juneF jo ja p n &&& ((1 : Int64) <<< ((nI I - nI l).toInt64 &&& 63) - 1)) &&& (((1 : Int64) <<< ((nI t).toInt64 &&& 63) - 1) ^^^ (-1))) = jcF jo ja p (isLB (nI t) (nI I - nI l)) n := by
  have hsub : nI I - nI l = nI (I - l) := by
    have : nI I = nI (I - l) + nI l := by rw [nI_add]; congr 1; omega
    rw [this, Int32.add_sub_cancel]
  rw [hsub]
  obtain ⟨x1, x2⟩ := xJ_bit (jo := jo) (p := p) (t := isLB (nI t) (nI (I - l))) n h ha
  have he : ((juneF jo ja p n &&& ((1 : Int64) <<< ((nI (I - l)).toInt64 &&& 63) - 1)) &&& (((1 : Int64) <<< ((nI t).toInt64 &&& 63) - 1) ^^^ (-1))) = lN (xJ jo ja p (isLB (nI t) (nI (I - l))) n) := by
    apply wb_inj
    apply BitVec.eq_of_getLsbD_eq
    intro i hi
    rw [Int64.toBitVec_and, BitVec.getLsbD_and, Int64.toBitVec_and, BitVec.getLsbD_and, mk64 _ (by omega) i hi, mn64 _ (by omega) i hi, wb_tb, BitVec.getLsbD_ofNat]
    rw [Bool.eq_iff_iff]
    simp only [Bool.and_eq_true, decide_eq_true_eq, Bool.not_eq_true', decide_eq_false_iff_not]
    rw [juneF_bit n h i hi, x2 i]
    constructor
    · rintro ⟨⟨⟨k, k1, k2, _, k4⟩, z2⟩, z3⟩
      refine ⟨hi, k, k1, k2, ?_, k4⟩
      rw [(h k k1).1, k4]
      unfold isLB
      rw [Bool.and_eq_true, decide_eq_true_eq, decide_eq_true_eq]
      exact ⟨nI_nlt (by omega) (by omega), nI_ge (by omega) (by omega)⟩
    · rintro ⟨_, k, k1, k2, k3, k4⟩
      rw [(h k k1).1, k4] at k3
      unfold isLB at k3
      rw [Bool.and_eq_true, decide_eq_true_eq, decide_eq_true_eq] at k3
      have a1 : ¬ i < t := fun z => k3.1 ((nI_ltI (by omega) (by omega)).mpr z)
      have a2 : ¬ I - l ≤ i := fun z => k3.2 ((nI_leI (by omega) (by omega)).mpr z)
      exact ⟨⟨⟨k, k1, k2, rfl, k4⟩, by omega⟩, a1⟩
  rw [he, bcL_pc x1, xJ_count n h ha]
