/-! The model: an HOUR -/
theorem litM_congr {f g : Nat → Int32} : ∀ {n : Nat}, (∀ p, p < n → f p = g p) → litM f n = litM g n := by
  intro n
  induction n with
  | zero => intro _; rfl
  | succ n ih => intro h; unfold litM; rw [ih (fun p hp => h p (by omega)), h n (by omega)]
def passW (T : Tx) (k : Nat → Int32) (c : St) : St := hourS (burnF T 63 (k 2) (k 4) (windK (k 1) T c).1 (nat (T.1.1 0)) 0 (shineF T (windK (k 1) T c).1 (litM ((windK (k 1) T c).2.2.1 5) (nat (T.1.1 0))) (nat (T.1.1 0)) 0 (windK (k 1) T c).2))
def relK (T : Tx) (k : Nat → Int32) (s : St) (byN : Bool) : Prop := (byN = true → s.1 46 = 0) ∧ (∀ c, windK (k 1) T c = mW (s.1 46) byN T c) ∧ (k 3 = 0 ↔ ¬ s.1 46 = 3) ∧ (k 4 = 0 ↔ ¬ s.1 46 = 4) ∧ ∀ p, p < 6 → (nI p = k 2 ↔ s.1 46 = 2 ∧ nI p = s.1 47)
theorem relK.fr {T : Tx} {k : Nat → Int32} {s s' : St} {byN : Bool} {r : Nat} (h : relK T k s byN) (f : frR r s s') : relK T k s' byN := by
  unfold relK at h ⊢
  rw [f.1 46 (by decide), f.1 47 (by decide)]
  exact h
theorem lit63 : ∀ m, m < 6 → litB 63 (nI m) = true := by
  intro m hm
  have : m = 0 ∨ m = 1 ∨ m = 2 ∨ m = 3 ∨ m = 4 ∨ m = 5 := by omega
  rcases this with rfl | rfl | rfl | rfl | rfl | rfl <;> decide
theorem Rm.idle {T : Tx} {s c : St} {r : Nat} (h : Rm T s r c) : Rm T (mA s 39 r (s.2.1 39 r + 1)) r (cIdle c) := by
  have := h.2.1.2.2.2.2.1
  rw [← this]
  exact h.T (frR.q (by decide)) h.2.1.idle h.2.2.ints
set_option maxRecDepth 100000 in
set_option maxHeartbeats 4000000 in
theorem passes_M {d n0 a : Nat} {κ : Kd} {h0 : Hp} (hd : 6 ≤ d) {T : Tx} {k : Nat → Int32} {s c R : St} {r : Nat} {byN : Bool} (hr : r < 23) (hw : wfT T) (hR : Rm T s r c) (hK : relK T k s byN) (hRR : passS T k 63 true c = R) : MV MX12_passes (d, 0, 0, n0, κ) a h0 s 0 [some (.ref a), some (.int (nI r)), some (.int (bI byN)), none, none, none, none] [] (fun v s' => v = none ∧ Rm T s' r R ∧ frR r s s') := by
  have h305 : ∀ (s2 c2 : St), Rm T s2 r c2 → frR r s s2 → hourS c2 = R → MV MX12_passes (d, 0, 0, n0, κ) a h0 s2 305 [some (.ref a), some (.int (nI r)), none, none, none, none, none] [] (fun v s' => v = none ∧ Rm T s' r R ∧ frR r s s') := by
    intro s2 c2 hR2 f2 hq
    refine MV.aload_n dX12_passes_305 rfl ?_
    refine MV.getf 36 fl_X12_75 dX12_passes_306 (by decide) rfl ?_
    refine MV.iload_n dX12_passes_309 rfl ?_
    refine MV.dup2 dX12_passes_310 rfl rfl ?_
    refine MV.ald C12_in36 dX12_passes_311 (rfl) (by omega) (by decide) ?_
    refine MV.iconst (v := 1) dX12_passes_312 (by decide) ?_
    refine MV.iadd dX12_passes_313 ?_
    refine MV.ast C12_in36 dX12_passes_314 (rfl) (by omega) (by decide) ?_
    refine MV.vret dX12_passes_315 rfl ?_
    exact ⟨rfl, by rw [← hq]; unfold hourS; have := hR2.2.1.2.1; rw [this]; exact hR2.T (frR.q (by decide)) hR2.2.1.hour hR2.2.2.ints, f2.tr (frR.q (by decide))⟩
  have h270 : ∀ (W : Bool) (j i : Nat) (s2 c2 : St), i + j = nat (T.1.1 0) → Rm T s2 r c2 → frR r s s2 → hourS (burnF T 63 (k 2) (k 4) W j i c2) = R → MV MX12_passes (d, 0, 0, n0, κ) a h0 s2 270 [some (.ref a), some (.int (nI r)), some (.int (bI byN)), some (.int (bI W)), none, some (.int (nI i)), none] [] (fun v s' => v = none ∧ Rm T s' r R ∧ frR r s s') := by
    intro W j
    induction j with
    | zero =>
      intro i s2 c2 hij hR2 f2 hq
      have hn2 : s2.2.1 3 0 = nI (nat (T.1.1 0)) := by rw [hR2.1.1.2.1]; exact hR2.1.1.1.1
      have hn6 := hR2.1.1.1.2
      rw [← hR2.1.1.2.1] at hn6
      refine MV.iload dX12_passes_270 rfl ?_
      refine MV.aload_n dX12_passes_272 rfl ?_
      refine MV.getf 3 fl_X12_13 dX12_passes_273 (by decide) rfl ?_
      refine MV.iconst (v := nI 0) dX12_passes_276 (by decide) ?_
      refine MV.ald C12_in3 dX12_passes_277 (rfl) (by omega) (by decide) ?_
      refine MV.icmp_ge 305 dX12_passes_278 (by decide) (fun _ => ?_) (fun z => absurd (by rw [hn2]; exact nI_le (by omega) (by omega)) z)
      refine MV.weak [some (.ref a), some (.int (nI r)), none, none, none, none, none] (by simp [leL, sto1, sto2, k2c]) ?_
      exact h305 _ _ hR2 f2 hq
    | succ j ih =>
      intro i s2 c2 hij hR2 f2 hq
      have hn2 : s2.2.1 3 0 = nI (nat (T.1.1 0)) := by rw [hR2.1.1.2.1]; exact hR2.1.1.1.1
      have hn6 := hR2.1.1.1.2
      rw [← hR2.1.1.2.1] at hn6
      have hi : i < nat (T.1.1 0) := by omega
      refine MV.iload dX12_passes_270 rfl ?_
      refine MV.aload_n dX12_passes_272 rfl ?_
      refine MV.getf 3 fl_X12_13 dX12_passes_273 (by decide) rfl ?_
      refine MV.iconst (v := nI 0) dX12_passes_276 (by decide) ?_
      refine MV.ald C12_in3 dX12_passes_277 (rfl) (by omega) (by decide) ?_
      refine MV.icmp_ge 305 dX12_passes_278 (by decide) (fun z => absurd z (by rw [hn2]; exact nI_ge (by omega) (by omega))) (fun _ => ?_)
      refine MV.aload_n dX12_passes_281 rfl ?_
      refine MV.iload_n dX12_passes_282 rfl ?_
      refine MV.iload dX12_passes_283 rfl ?_
      refine MV.iconst (v := nI 0) dX12_passes_285 (by decide) ?_
      refine MV.iload_n dX12_passes_286 rfl ?_
      refine MV.cV4 yoX12_burns ml_X12_417 im_X12_burns se_X12_burns dX12_passes_287 rfl (Nat.le_of_ble_eq_true rfl) (by omega) rfl (Nat.le_of_ble_eq_true rfl) (burns_M (T := T) (c := c2) (e := 0) (w := W) (nl := k 4) (unb := k 2) (by omega) hr hR2 hi (by decide) ((hK.fr f2)).2.2.2.1 (((hK.fr f2)).2.2.2.2 i (by omega)) rfl) ?_
      rintro _ s3 ⟨rfl, hR3, f3⟩
      refine MV.aload_n dX12_passes_290 rfl ?_
      refine MV.iload_n dX12_passes_291 rfl ?_
      refine MV.iload dX12_passes_292 rfl ?_
      refine MV.iconst (v := nI 1) dX12_passes_294 (by decide) ?_
      refine MV.iload_n dX12_passes_295 rfl ?_
      refine MV.cV4 yoX12_burns ml_X12_417 im_X12_burns se_X12_burns dX12_passes_296 rfl (Nat.le_of_ble_eq_true rfl) (by omega) rfl (Nat.le_of_ble_eq_true rfl) (burns_M (T := T) (c := _) (e := 1) (w := W) (nl := k 4) (unb := k 2) (by omega) hr hR3 hi (by decide) ((hK.fr (f2.tr f3))).2.2.2.1 (((hK.fr (f2.tr f3))).2.2.2.2 i (by omega)) rfl) ?_
      rintro _ s4 ⟨rfl, hR4, f4⟩
      refine MV.iinc (v := 1) dX12_passes_299 rfl (by decide) (by decide) rfl ?_
      refine MV.goto 270 dX12_passes_302 (by decide) ?_
      refine MV.weak [some (.ref a), some (.int (nI r)), some (.int (bI byN)), some (.int (bI W)), none, some (.int (nI (i + 1))), none] (by simp [leL, sto1, sto2, k2c, nI_1]) ?_
      refine ih (i + 1) _ _ (by omega) hR4 ((f2.tr f3).tr f4) ?_
      rw [← hq, burnF, burnP]
      by_cases hu : nI i = k 2
      · rw [if_pos hu, if_pos hu, if_neg (fun z => z.2 hu)]
      · rw [if_neg hu, if_neg hu, if_pos ⟨lit63 i (by omega), hu⟩]
        rfl
  have h267 : ∀ (W : Bool) (s2 c2 : St), Rm T s2 r c2 → frR r s s2 → hourS (burnF T 63 (k 2) (k 4) W (nat (T.1.1 0)) 0 c2) = R → MV MX12_passes (d, 0, 0, n0, κ) a h0 s2 267 [some (.ref a), some (.int (nI r)), some (.int (bI byN)), some (.int (bI W)), none, none, none] [] (fun v s' => v = none ∧ Rm T s' r R ∧ frR r s s') := by
    intro W s2 c2 hR2 f2 hq
    refine MV.iconst (v := nI 0) dX12_passes_267 (by decide) ?_
    refine MV.istore dX12_passes_268 (by decide) rfl ?_
    refine MV.weak [some (.ref a), some (.int (nI r)), some (.int (bI byN)), some (.int (bI W)), none, some (.int (nI 0)), none] (by simp [leL, sto1, sto2, k2c]) ?_
    exact h270 W (nat (T.1.1 0)) 0 s2 c2 (by omega) hR2 f2 hq
  have h151 : ∀ (W : Bool) (lit : Int32) (j i : Nat) (s2 c2 : St), i + j = nat (T.1.1 0) → Rm T s2 r c2 → frR r s s2 → hourS (burnF T 63 (k 2) (k 4) W (nat (T.1.1 0)) 0 (shineF T W lit j i c2)) = R → MV MX12_passes (d, 0, 0, n0, κ) a h0 s2 151 [some (.ref a), some (.int (nI r)), some (.int (bI byN)), some (.int (bI W)), some (.int (lit)), some (.int (nI i)), none] [] (fun v s' => v = none ∧ Rm T s' r R ∧ frR r s s') := by
    intro W lit j
    induction j with
    | zero =>
      intro i s2 c2 hij hR2 f2 hq
      have hn2 : s2.2.1 3 0 = nI (nat (T.1.1 0)) := by rw [hR2.1.1.2.1]; exact hR2.1.1.1.1
      have hn6 := hR2.1.1.1.2
      rw [← hR2.1.1.2.1] at hn6
      refine MV.iload dX12_passes_151 rfl ?_
      refine MV.aload_n dX12_passes_153 rfl ?_
      refine MV.getf 3 fl_X12_13 dX12_passes_154 (by decide) rfl ?_
      refine MV.iconst (v := nI 0) dX12_passes_157 (by decide) ?_
      refine MV.ald C12_in3 dX12_passes_158 (rfl) (by omega) (by decide) ?_
      refine MV.icmp_ge 267 dX12_passes_159 (by decide) (fun _ => ?_) (fun z => absurd (by rw [hn2]; exact nI_le (by omega) (by omega)) z)
      refine MV.weak [some (.ref a), some (.int (nI r)), some (.int (bI byN)), some (.int (bI W)), none, none, none] (by simp [leL, sto1, sto2, k2c]) ?_
      exact h267 W _ _ hR2 f2 hq
    | succ j ih =>
      intro i s2 c2 hij hR2 f2 hq
      have hn2 : s2.2.1 3 0 = nI (nat (T.1.1 0)) := by rw [hR2.1.1.2.1]; exact hR2.1.1.1.1
      have hn6 := hR2.1.1.1.2
      rw [← hR2.1.1.2.1] at hn6
      have hi : i < nat (T.1.1 0) := by omega
      have hi6 : i < 6 := by omega
      obtain ⟨b1, b2, b3, b4⟩ := hR2.2.1.2.2.2.2.2.1 i hi6
      have rl := hR2.1.2.2.2.2.1.1
      have b4e : T.1.2.1 4 i = lendF (s2.2.1 14) (s2.2.1 15) (nI i) (nat (s2.2.1 3 4)) := hR2.1.2.2.2.2.1.2.2.2 i hi6
      have h204 : ∀ s3 c3 : St, Rm T s3 r c3 → frR r s s3 → seenS T lit i c2 = c3 → MV MX12_passes (d, 0, 0, n0, κ) a h0 s3 204 [some (.ref a), some (.int (nI r)), some (.int (bI byN)), some (.int (bI W)), some (.int (lit)), some (.int (nI i)), some (.int (nI (6 * r + i)))] [] (fun v s' => v = none ∧ Rm T s' r R ∧ frR r s s') := by
        intro s3 c3 hR3 f3 hc3
        have d3 := (hR3.2.1.2.2.2.2.2.1 i hi6).2.2.1
        refine MV.aload_n dX12_passes_204 rfl ?_
        refine MV.getf 42 fl_X12_93 dX12_passes_205 (by decide) rfl ?_
        refine MV.iload dX12_passes_208 rfl ?_
        refine MV.ald C12_in42 dX12_passes_210 (rfl) (by omega) (by decide) ?_
        refine MV.if_ne 217 dX12_passes_211 (by decide) (fun c211 => ?_) (fun c211 => ?_)
        · skip
          have q211 : ¬ c3.2.1 5 i = 0 := fun z => c211 (d3.symm.trans z)
          refine MV.aload_n dX12_passes_217 rfl ?_
          refine MV.iload_n dX12_passes_218 rfl ?_
          refine MV.iload dX12_passes_219 rfl ?_
          refine MV.iload_n dX12_passes_221 rfl ?_
          refine MV.cV3 yoX12_calls ml_X12_382 im_X12_calls se_X12_calls dX12_passes_222 rfl (Nat.le_of_ble_eq_true rfl) (by omega) rfl (Nat.le_of_ble_eq_true rfl) (calls_M (T := T) (c := c3) (w := W) (by omega) hr hR3.1 hR3.2.1 hR3.2.2 hi) ?_
          rintro _ s4 ⟨rfl, hN, k1, k2⟩
          have f4 : scW s3 (s4.1, s3.2.1, s3.2.2.1, s4.2.2.2) := ⟨fun j _ => by show s4.1 j = _; rw [k1], rfl, rfl⟩
          have hR4 : Rm T s4 r c3 := by
            obtain ⟨q1, q2, q3⟩ := hR3
            refine ⟨by rw [k2]; exact q1, ?_, q3⟩
            unfold relC mIn at q2 ⊢
            rw [k2, k1]
            exact q2
          have g4 : frR r s3 s4 := ⟨fun j _ => by rw [k1], fun _ _ => by rw [k2], fun _ _ _ _ _ => by rw [k2], fun _ _ _ _ _ => by rw [k2]⟩
          refine MV.aload_n dX12_passes_225 rfl ?_
          refine MV.getf 38 fl_X12_81 dX12_passes_226 (by decide) rfl ?_
          refine MV.iload_n dX12_passes_229 rfl ?_
          refine MV.ldc kc_X12_186 dX12_passes_230 ?_
          refine MV.aload_n dX12_passes_232 rfl ?_
          refine MV.getf 38 fl_X12_81 dX12_passes_233 (by decide) rfl ?_
          refine MV.iload_n dX12_passes_236 rfl ?_
          refine MV.ald C12_in38 dX12_passes_237 (rfl) (by omega) (by decide) ?_
          refine MV.eqi (c3.1 8) hR4.2.1.2.2.2.1.symm ?_
          refine MV.aload_n dX12_passes_238 rfl ?_
          refine MV.iconst (v := 1) dX12_passes_239 (by decide) ?_
          refine MV.sipush (v := 999) dX12_passes_240 (by decide) ?_
          refine MV.aload_n dX12_passes_243 rfl ?_
          refine MV.getf 42 fl_X12_93 dX12_passes_244 (by decide) rfl ?_
          refine MV.iload dX12_passes_247 rfl ?_
          refine MV.ald C12_in42 dX12_passes_249 (rfl) (by omega) (by decide) ?_
          refine MV.eqi (c3.2.1 5 i) (by rw [k2]; exact d3.symm) ?_
          refine MV.cS1 yoX12_bitsOf ml_X12_356 st_X12_bitsOf dX12_passes_250 (Nat.le_of_ble_eq_true rfl) (by omega) rfl (Nat.le_of_ble_eq_true rfl) (fun h H => bitsOf_V (by omega)) ?_
          refine MV.eqi (bcI (c3.2.1 5 i)) (bits4 (hR3.2.2.litok hi)) ?_
          refine MV.cV3 yoX12_within ml_X12_386 im_X12_within se_X12_within dX12_passes_253 rfl (Nat.le_of_ble_eq_true rfl) (by omega) rfl (Nat.le_of_ble_eq_true rfl) (within_M (T := T) (c := c3) (p := i) (q := 1) (k := 999) (w := W) (by omega) (by decide) (by decide) hR4.1 hN) ?_
          rintro _ s5 ⟨x, rfl, hx, sc5⟩
          have hR5 := hR4.sc sc5
          refine MV.eqi (glowN T W i c3) (by rw [hx]; rfl) ?_
          refine MV.iadd dX12_passes_256 ?_
          refine MV.mmin ml_X12_390 st_J9_min_7cf53 ini_J9 co_J9_min_7cf53 dX12_passes_257 (by omega) (Nat.le_of_ble_eq_true rfl) ?_
          refine MV.eqi (cMin 99999 (c3.1 8 + glowN T W i c3)) rfl ?_
          refine MV.ast C12_in38 dX12_passes_260 (rfl) (by omega) (by decide) ?_
          refine MV.iinc (v := 1) dX12_passes_261 rfl (by decide) (by decide) rfl ?_
          refine MV.goto 151 dX12_passes_264 (by decide) ?_
          refine MV.weak [some (.ref a), some (.int (nI r)), some (.int (bI byN)), some (.int (bI W)), some (.int (lit)), some (.int (nI (i + 1))), none] (by simp [leL, sto1, sto2, k2c, nI_1]) ?_
          exact ih (i + 1) _ _ (by omega) (hR5.T (frR.q (by decide)) hR5.2.1.glow hR5.2.2.ints) (((f3.tr g4).tr (frR.sc sc5)).tr (frR.q (by decide))) (by rw [← hq, shineF, hc3, glowS, if_neg q211])
        · skip
          have q211 : c3.2.1 5 i = 0 := d3.trans c211
          refine MV.goto 261 dX12_passes_214 (by decide) ?_
          refine MV.iinc (v := 1) dX12_passes_261 rfl (by decide) (by decide) rfl ?_
          refine MV.goto 151 dX12_passes_264 (by decide) ?_
          refine MV.weak [some (.ref a), some (.int (nI r)), some (.int (bI byN)), some (.int (bI W)), some (.int (lit)), some (.int (nI (i + 1))), none] (by simp [leL, sto1, sto2, k2c, nI_1]) ?_
          exact ih (i + 1) _ _ (by omega) hR3 f3 (by rw [← hq, shineF, hc3, glowS, if_pos q211])
      refine MV.iload dX12_passes_151 rfl ?_
      refine MV.aload_n dX12_passes_153 rfl ?_
      refine MV.getf 3 fl_X12_13 dX12_passes_154 (by decide) rfl ?_
      refine MV.iconst (v := nI 0) dX12_passes_157 (by decide) ?_
      refine MV.ald C12_in3 dX12_passes_158 (rfl) (by omega) (by decide) ?_
      refine MV.icmp_ge 267 dX12_passes_159 (by decide) (fun z => absurd z (by rw [hn2]; exact nI_ge (by omega) (by omega))) (fun _ => ?_)
      refine MV.bipush (v := 6) dX12_passes_162 (by decide) ?_
      refine MV.iload_n dX12_passes_164 rfl ?_
      refine MV.imul dX12_passes_165 ?_
      refine MV.iload dX12_passes_166 rfl ?_
      refine MV.iadd dX12_passes_168 ?_
      rw [rix]
      refine MV.istore dX12_passes_169 (by decide) rfl ?_
      refine MV.aload_n dX12_passes_171 rfl ?_
      refine MV.iload dX12_passes_172 rfl ?_
      refine MV.iload dX12_passes_174 rfl ?_
      refine MV.cV2 yoX12_doesSee ml_X12_413 im_X12_doesSee se_X12_doesSee dX12_passes_176 rfl (Nat.le_of_ble_eq_true rfl) (by omega) rfl (Nat.le_of_ble_eq_true rfl) (doesSee_M (by omega) rl.1 (by have := rl.2; omega)) (MV.rdK ?_)
      refine MV.if_eq 204 dX12_passes_179 (by decide) (fun c179 => ?_) (fun c179 => ?_)
      · skip
        have c179 := bI_f c179
        refine MV.weak [some (.ref a), some (.int (nI r)), some (.int (bI byN)), some (.int (bI W)), some (.int (lit)), some (.int (nI i)), some (.int (nI (6 * r + i)))] (by simp [leL, sto1, sto2, k2c]) ?_
        first
        | exact h204 _ _ hR2 f2 (by rw [seenS, if_neg (by rw [b4e, c179]; decide)])
        | exact h204 _ _ (hR2.T (frR.p hi6 (by decide)) (hR2.2.1.seen hi6) hR2.2.2.seen) (f2.tr (frR.p hi6 (by decide))) (by rw [seenS, if_pos (by rw [b4e]; exact c179), b4])
      · skip
        have c179 := bI_t c179
        refine MV.aload_n dX12_passes_182 rfl ?_
        refine MV.getf 43 fl_X12_96 dX12_passes_183 (by decide) rfl ?_
        refine MV.iload dX12_passes_186 rfl ?_
        refine MV.sipush (v := 9999) dX12_passes_188 (by decide) ?_
        refine MV.aload_n dX12_passes_191 rfl ?_
        refine MV.getf 43 fl_X12_96 dX12_passes_192 (by decide) rfl ?_
        refine MV.iload dX12_passes_195 rfl ?_
        refine MV.ald C12_in43 dX12_passes_197 (rfl) (by omega) (by decide) ?_
        refine MV.iconst (v := 1) dX12_passes_198 (by decide) ?_
        refine MV.iadd dX12_passes_199 ?_
        refine MV.mmin ml_X12_390 st_J9_min_7cf53 ini_J9 co_J9_min_7cf53 dX12_passes_200 (by omega) (Nat.le_of_ble_eq_true rfl) ?_
        refine MV.eqi (cMin 9999 (s2.2.1 43 (6 * r + i) + 1)) rfl ?_
        refine MV.ast C12_in43 dX12_passes_203 (rfl) (by omega) (by decide) ?_
        refine MV.weak [some (.ref a), some (.int (nI r)), some (.int (bI byN)), some (.int (bI W)), some (.int (lit)), some (.int (nI i)), some (.int (nI (6 * r + i)))] (by simp [leL, sto1, sto2, k2c]) ?_
        first
        | exact h204 _ _ hR2 f2 (by rw [seenS, if_neg (by rw [b4e, c179]; decide)])
        | exact h204 _ _ (hR2.T (frR.p hi6 (by decide)) (hR2.2.1.seen hi6) hR2.2.2.seen) (f2.tr (frR.p hi6 (by decide))) (by rw [seenS, if_pos (by rw [b4e]; exact c179), b4])
  have h134 : ∀ (s2 c2 : St), Rm T s2 r c2 → frR r s s2 → passW T k c2 = R → MV MX12_passes (d, 0, 0, n0, κ) a h0 s2 134 [some (.ref a), some (.int (nI r)), some (.int (bI byN)), none, none, none, none] [] (fun v s' => v = none ∧ Rm T s' r R ∧ frR r s s') := by
    intro s2 c2 hR2 f2 hq
    refine MV.aload_n dX12_passes_134 rfl ?_
    refine MV.iload_n dX12_passes_135 rfl ?_
    refine MV.iload_n dX12_passes_136 rfl ?_
    refine MV.cV2 yoX12_isWindy ml_X12_406 im_X12_isWindy se_X12_isWindy dX12_passes_137 rfl (Nat.le_of_ble_eq_true rfl) (by omega) rfl (Nat.le_of_ble_eq_true rfl) (isWindy_M (T := T) (c := c2) (byN := byN) (by omega) hr hR2 (hK.fr f2).1) ?_
    rintro _ s3 ⟨rfl, hR3, f3⟩
    have hwk := (hK.fr f2).2.1 c2
    rw [← hwk] at hR3
    rw [← hwk]
    refine MV.istore_n dX12_passes_140 (by decide) rfl ?_
    refine MV.aload_n dX12_passes_141 rfl ?_
    refine MV.iload_n dX12_passes_142 rfl ?_
    refine MV.cV1 yoX12_litOnes ml_X12_410 im_X12_litOnes se_X12_litOnes dX12_passes_143 rfl (Nat.le_of_ble_eq_true rfl) (by omega) rfl (Nat.le_of_ble_eq_true rfl) (litOnes_M (by omega) hr (hR3.1.1.1.1) (by have := hR3.1.1.1.2; omega)) (MV.rdK ?_)
    refine MV.eqi (litM ((windK (k 1) T c2).2.2.1 5) (nat (T.1.1 0))) (by rw [hR3.1.1.2.1]; exact litM_congr fun p hp => ((hR3.2.1.2.2.2.2.2.1 p (by have := hR3.1.1.1.2; omega)).2.2.1).symm) ?_
    refine MV.istore dX12_passes_146 (by decide) rfl ?_
    refine MV.iconst (v := nI 0) dX12_passes_148 (by decide) ?_
    refine MV.istore dX12_passes_149 (by decide) rfl ?_
    refine MV.weak [some (.ref a), some (.int (nI r)), some (.int (bI byN)), some (.int (bI (windK (k 1) T c2).1)), some (.int (litM ((windK (k 1) T c2).2.2.1 5) (nat (T.1.1 0)))), some (.int (nI 0)), none] (by simp [leL, sto1, sto2, k2c]) ?_
    exact h151 _ _ (nat (T.1.1 0)) 0 s3 _ (by omega) hR3 (f2.tr f3) hq
  have h65 : ¬ s.1 46 = 3 → ∀ (j i : Nat) (s2 c2 : St), i + j = nat (T.2.2.1.1 0) → Rm T s2 r c2 → frR r s s2 → passW T k (blowsF T.2.2.1 63 j i c2) = R → MV MX12_passes (d, 0, 0, n0, κ) a h0 s2 65 [some (.ref a), some (.int (nI r)), some (.int (bI byN)), some (.int (nI i)), none, none, none] [] (fun v s' => v = none ∧ Rm T s' r R ∧ frR r s s') := by
    intro hnb j
    induction j with
    | zero =>
      intro i s2 c2 hij hR2 f2 hq
      obtain ⟨rd1, rd2, rd3⟩ := hR2.1.2.2.2.1
      have hij0 := hij
      rw [rd2] at hij
      refine MV.iload_n dX12_passes_65 rfl ?_
      refine MV.aload_n dX12_passes_66 rfl ?_
      refine MV.getf 3 fl_X12_13 dX12_passes_67 (by decide) rfl ?_
      refine MV.iconst (v := nI 3) dX12_passes_70 (by decide) ?_
      refine MV.ald C12_in3 dX12_passes_71 (rfl) (by omega) (by decide) ?_
      refine MV.icmp_ge 134 dX12_passes_72 (by decide) (fun _ => ?_) (fun z => absurd (by rw [rd1.1]; exact nI_le (by omega) (by have := rd1.2; omega)) z)
      refine MV.weak [some (.ref a), some (.int (nI r)), some (.int (bI byN)), none, none, none, none] (by simp [leL, sto1, sto2, k2c]) ?_
      exact h134 _ _ hR2 f2 hq
    | succ j ih =>
      intro i s2 c2 hij hR2 f2 hq
      obtain ⟨rd1, rd2, rd3⟩ := hR2.1.2.2.2.1
      have hij0 := hij
      rw [rd2] at hij
      obtain ⟨e1, e2, e3⟩ := rd3 i (by omega)
      have hm := ((hw.2.2.1).2 i (by rw [rd2]; omega)).1
      have hm2 := ((hw.2.2.1).2 i (by rw [rd2]; omega)).2
      have hm6 : nat (T.2.2.1.2.1 2 i) < 6 := hR2.p6 hm.2
      obtain ⟨E, hE, hE2⟩ : ∃ E, T.2.2.1.2.1 3 i = nI E ∧ E < 2 := ⟨_, hm2⟩
      refine MV.iload_n dX12_passes_65 rfl ?_
      refine MV.aload_n dX12_passes_66 rfl ?_
      refine MV.getf 3 fl_X12_13 dX12_passes_67 (by decide) rfl ?_
      refine MV.iconst (v := nI 3) dX12_passes_70 (by decide) ?_
      refine MV.ald C12_in3 dX12_passes_71 (rfl) (by omega) (by decide) ?_
      refine MV.icmp_ge 134 dX12_passes_72 (by decide) (fun z => absurd z (by rw [rd1.1]; exact nI_ge (by omega) (by have := rd1.2; omega))) (fun _ => ?_)
      refine MV.aload_n dX12_passes_75 rfl ?_
      refine MV.getf 46 fl_X12_375 dX12_passes_76 (by decide) rfl ?_
      refine MV.iconst (v := 3) dX12_passes_79 (by decide) ?_
      refine MV.icmp_eq 134 dX12_passes_80 (by decide) (fun z => absurd z (fun z => hnb (by rw [← f2.1 46 (by decide)]; exact z))) (fun _ => ?_)
      refine MV.aload_n dX12_passes_83 rfl ?_
      refine MV.getf 13 fl_X12_43 dX12_passes_84 (by decide) rfl ?_
      refine MV.iload_n dX12_passes_87 rfl ?_
      refine MV.ald C12_in13 dX12_passes_88 (rfl) (by have := rd1.2; omega) (by decide) ?_
      refine MV.aload_n dX12_passes_89 rfl ?_
      refine MV.getf 36 fl_X12_75 dX12_passes_90 (by decide) rfl ?_
      refine MV.iload_n dX12_passes_93 rfl ?_
      refine MV.ald C12_in36 dX12_passes_94 (rfl) (by omega) (by decide) ?_
      refine MV.icmp_ne 128 dX12_passes_95 (by decide) (fun c95 => ?_) (fun c95 => ?_)
      · skip
        have hdu : dDue T.2.2.1 i (c2.1 7) 63 = false := by
          unfold dDue
          rw [e3, hR2.2.1.2.1, decide_eq_false c95, Bool.false_and]
        refine MV.iinc (v := 1) dX12_passes_128 rfl (by decide) (by decide) rfl ?_
        refine MV.goto 65 dX12_passes_131 (by decide) ?_
        refine MV.weak [some (.ref a), some (.int (nI r)), some (.int (bI byN)), some (.int (nI (i + 1))), none, none, none] (by simp [leL, sto1, sto2, k2c, nI_1]) ?_
        first
        | (have hst : blowsF T.2.2.1 63 (j + 1) i c2 = blowsF T.2.2.1 63 j (i + 1) c2 := by rw [blowsF, if_neg (by rw [hdu]; decide)]
           exact ih (i + 1) _ _ (by omega) hR2 f2 (by rw [← hq, hst]))
        | (have hst : blowsF T.2.2.1 63 (j + 1) i c2 = blowsF T.2.2.1 63 j (i + 1) (cBlow c2 (nat (T.2.2.1.2.1 2 i)) (nI E)) := by rw [blowsF, if_pos hdu, cBlowOrIdle, hE, if_pos (by rw [← hbe]; exact hb)]
           exact ih (i + 1) _ _ (by omega) (by rw [if_pos hb] at hR3; exact hR3) (f2.tr f3) (by rw [← hq, hst]))
        | (have hst : blowsF T.2.2.1 63 (j + 1) i c2 = blowsF T.2.2.1 63 j (i + 1) (cIdle c2) := by rw [blowsF, if_pos hdu, cBlowOrIdle, hE, if_neg (by rw [← hbe, hb]; decide)]
           exact ih (i + 1) _ _ (by omega) (by rw [if_neg (by rw [hb]; decide)] at hR3; exact hR3.idle) ((f2.tr f3).tr (frR.q (by decide))) (by rw [← hq, hst]))
      · skip
        have hdu : dDue T.2.2.1 i (c2.1 7) 63 = true := by
          unfold dDue
          rw [e3, hR2.2.1.2.1, decide_eq_true c95, hm.1, lit63 _ hm6]; rfl
        refine MV.aload_n dX12_passes_98 rfl ?_
        refine MV.iload_n dX12_passes_99 rfl ?_
        refine MV.aload_n dX12_passes_100 rfl ?_
        refine MV.getf 11 fl_X12_37 dX12_passes_101 (by decide) rfl ?_
        refine MV.iload_n dX12_passes_104 rfl ?_
        refine MV.ald C12_in11 dX12_passes_105 (rfl) (by have := rd1.2; omega) (by decide) ?_
        refine MV.eqi (nI (nat (T.2.2.1.2.1 2 i))) (e1.symm.trans hm.1) ?_
        refine MV.aload_n dX12_passes_106 rfl ?_
        refine MV.getf 12 fl_X12_40 dX12_passes_107 (by decide) rfl ?_
        refine MV.iload_n dX12_passes_110 rfl ?_
        refine MV.ald C12_in12 dX12_passes_111 (rfl) (by have := rd1.2; omega) (by decide) ?_
        refine MV.eqi (nI E) (e2.symm.trans hE) ?_
        refine MV.cV3 yoX12_blows ml_X12_403 im_X12_blows se_X12_blows dX12_passes_112 rfl (Nat.le_of_ble_eq_true rfl) (by omega) rfl (Nat.le_of_ble_eq_true rfl) (blows_M (T := T) (c := c2) (p := nat (T.2.2.1.2.1 2 i)) (e := E) (by omega) hr hR2 hm.2 hE2) ?_
        rintro _ s3 ⟨b, rfl, hbe, hR3, f3⟩
        refine MV.if_ne 128 dX12_passes_115 (by decide) (fun c115 => ?_) (fun c115 => ?_)
        · skip
          have hb := bI_t c115
          refine MV.iinc (v := 1) dX12_passes_128 rfl (by decide) (by decide) rfl ?_
          refine MV.goto 65 dX12_passes_131 (by decide) ?_
          refine MV.weak [some (.ref a), some (.int (nI r)), some (.int (bI byN)), some (.int (nI (i + 1))), none, none, none] (by simp [leL, sto1, sto2, k2c, nI_1]) ?_
          first
          | (have hst : blowsF T.2.2.1 63 (j + 1) i c2 = blowsF T.2.2.1 63 j (i + 1) c2 := by rw [blowsF, if_neg (by rw [hdu]; decide)]
             exact ih (i + 1) _ _ (by omega) hR2 f2 (by rw [← hq, hst]))
          | (have hst : blowsF T.2.2.1 63 (j + 1) i c2 = blowsF T.2.2.1 63 j (i + 1) (cBlow c2 (nat (T.2.2.1.2.1 2 i)) (nI E)) := by rw [blowsF, if_pos hdu, cBlowOrIdle, hE, if_pos (by rw [← hbe]; exact hb)]
             exact ih (i + 1) _ _ (by omega) (by rw [if_pos hb] at hR3; exact hR3) (f2.tr f3) (by rw [← hq, hst]))
          | (have hst : blowsF T.2.2.1 63 (j + 1) i c2 = blowsF T.2.2.1 63 j (i + 1) (cIdle c2) := by rw [blowsF, if_pos hdu, cBlowOrIdle, hE, if_neg (by rw [← hbe, hb]; decide)]
             exact ih (i + 1) _ _ (by omega) (by rw [if_neg (by rw [hb]; decide)] at hR3; exact hR3.idle) ((f2.tr f3).tr (frR.q (by decide))) (by rw [← hq, hst]))
        · skip
          have hb := bI_f c115
          refine MV.aload_n dX12_passes_118 rfl ?_
          refine MV.getf 39 fl_X12_84 dX12_passes_119 (by decide) rfl ?_
          refine MV.iload_n dX12_passes_122 rfl ?_
          refine MV.dup2 dX12_passes_123 rfl rfl ?_
          refine MV.ald C12_in39 dX12_passes_124 (rfl) (by omega) (by decide) ?_
          refine MV.iconst (v := 1) dX12_passes_125 (by decide) ?_
          refine MV.iadd dX12_passes_126 ?_
          refine MV.ast C12_in39 dX12_passes_127 (rfl) (by omega) (by decide) ?_
          refine MV.iinc (v := 1) dX12_passes_128 rfl (by decide) (by decide) rfl ?_
          refine MV.goto 65 dX12_passes_131 (by decide) ?_
          refine MV.weak [some (.ref a), some (.int (nI r)), some (.int (bI byN)), some (.int (nI (i + 1))), none, none, none] (by simp [leL, sto1, sto2, k2c, nI_1]) ?_
          first
          | (have hst : blowsF T.2.2.1 63 (j + 1) i c2 = blowsF T.2.2.1 63 j (i + 1) c2 := by rw [blowsF, if_neg (by rw [hdu]; decide)]
             exact ih (i + 1) _ _ (by omega) hR2 f2 (by rw [← hq, hst]))
          | (have hst : blowsF T.2.2.1 63 (j + 1) i c2 = blowsF T.2.2.1 63 j (i + 1) (cBlow c2 (nat (T.2.2.1.2.1 2 i)) (nI E)) := by rw [blowsF, if_pos hdu, cBlowOrIdle, hE, if_pos (by rw [← hbe]; exact hb)]
             exact ih (i + 1) _ _ (by omega) (by rw [if_pos hb] at hR3; exact hR3) (f2.tr f3) (by rw [← hq, hst]))
          | (have hst : blowsF T.2.2.1 63 (j + 1) i c2 = blowsF T.2.2.1 63 j (i + 1) (cIdle c2) := by rw [blowsF, if_pos hdu, cBlowOrIdle, hE, if_neg (by rw [← hbe, hb]; decide)]
             exact ih (i + 1) _ _ (by omega) (by rw [if_neg (by rw [hb]; decide)] at hR3; exact hR3.idle) ((f2.tr f3).tr (frR.q (by decide))) (by rw [← hq, hst]))
  have h63 : ∀ (s2 c2 : St), Rm T s2 r c2 → frR r s s2 → passW T k (if k 3 = 0 then blowsF T.2.2.1 63 (nat (T.2.2.1.1 0)) 0 c2 else c2) = R → MV MX12_passes (d, 0, 0, n0, κ) a h0 s2 63 [some (.ref a), some (.int (nI r)), some (.int (bI byN)), none, none, none, none] [] (fun v s' => v = none ∧ Rm T s' r R ∧ frR r s s') := by
    intro s2 c2 hR2 f2 hq
    by_cases hnb : ¬ s.1 46 = 3
    · have h65 := h65 hnb
      refine MV.iconst (v := nI 0) dX12_passes_63 (by decide) ?_
      refine MV.istore_n dX12_passes_64 (by decide) rfl ?_
      refine MV.weak [some (.ref a), some (.int (nI r)), some (.int (bI byN)), some (.int (nI 0)), none, none, none] (by simp [leL, sto1, sto2, k2c]) ?_
      exact h65 (nat (T.2.2.1.1 0)) 0 s2 c2 (by omega) hR2 f2 (by rw [← hq, if_pos (hK.2.2.1.mpr hnb)])
    · have hb3 : s.1 46 = 3 := Classical.byContradiction hnb
      refine MV.iconst (v := nI 0) dX12_passes_63 (by decide) ?_
      refine MV.istore_n dX12_passes_64 (by decide) rfl ?_
      refine MV.iload_n dX12_passes_65 rfl ?_
      refine MV.aload_n dX12_passes_66 rfl ?_
      refine MV.getf 3 fl_X12_13 dX12_passes_67 (by decide) rfl ?_
      refine MV.iconst (v := nI 3) dX12_passes_70 (by decide) ?_
      refine MV.ald C12_in3 dX12_passes_71 (rfl) (by omega) (by decide) ?_
      refine MV.icmp_ge 134 dX12_passes_72 (by decide) (fun c72 => ?_) (fun c72 => ?_)
      · skip
        refine MV.weak [some (.ref a), some (.int (nI r)), some (.int (bI byN)), none, none, none, none] (by simp [leL, sto1, sto2, k2c]) ?_
        exact h134 _ _ hR2 f2 (by rw [← hq, if_neg (fun z => hK.2.2.1.mp z hb3)])
      · skip
        refine MV.aload_n dX12_passes_75 rfl ?_
        refine MV.getf 46 fl_X12_375 dX12_passes_76 (by decide) rfl ?_
        refine MV.iconst (v := 3) dX12_passes_79 (by decide) ?_
        refine MV.icmp_eq 134 dX12_passes_80 (by decide) (fun _ => ?_) (fun z => absurd (by rw [f2.1 46 (by decide)]; exact hb3) z)
        refine MV.weak [some (.ref a), some (.int (nI r)), some (.int (bI byN)), none, none, none, none] (by simp [leL, sto1, sto2, k2c]) ?_
        exact h134 _ _ hR2 f2 (by rw [← hq, if_neg (fun z => hK.2.2.1.mp z hb3)])
  have h2 : ∀ (j i : Nat) (s2 c2 : St), i + j = nat (T.2.1.1 0) → Rm T s2 r c2 → frR r s s2 → passW T k (if k 3 = 0 then blowsF T.2.2.1 63 (nat (T.2.2.1.1 0)) 0 (lightsF T.2.1 63 j i c2) else lightsF T.2.1 63 j i c2) = R → MV MX12_passes (d, 0, 0, n0, κ) a h0 s2 2 [some (.ref a), some (.int (nI r)), some (.int (bI byN)), some (.int (nI i)), none, none, none] [] (fun v s' => v = none ∧ Rm T s' r R ∧ frR r s s') := by
    intro j
    induction j with
    | zero =>
      intro i s2 c2 hij hR2 f2 hq
      obtain ⟨rd1, rd2, rd3⟩ := hR2.1.2.2.1
      have hij0 := hij
      rw [rd2] at hij
      refine MV.iload_n dX12_passes_2 rfl ?_
      refine MV.aload_n dX12_passes_3 rfl ?_
      refine MV.getf 3 fl_X12_13 dX12_passes_4 (by decide) rfl ?_
      refine MV.iconst (v := nI 2) dX12_passes_7 (by decide) ?_
      refine MV.ald C12_in3 dX12_passes_8 (rfl) (by omega) (by decide) ?_
      refine MV.icmp_ge 63 dX12_passes_9 (by decide) (fun _ => ?_) (fun z => absurd (by rw [rd1.1]; exact nI_le (by omega) (by have := rd1.2; omega)) z)
      refine MV.weak [some (.ref a), some (.int (nI r)), some (.int (bI byN)), none, none, none, none] (by simp [leL, sto1, sto2, k2c]) ?_
      exact h63 _ _ hR2 f2 hq
    | succ j ih =>
      intro i s2 c2 hij hR2 f2 hq
      obtain ⟨rd1, rd2, rd3⟩ := hR2.1.2.2.1
      have hij0 := hij
      rw [rd2] at hij
      obtain ⟨e1, e2, e3⟩ := rd3 i (by omega)
      have hm := ((hw.2.1).2 i (by rw [rd2]; omega)).1
      have hm2 := ((hw.2.1).2 i (by rw [rd2]; omega)).2
      have hm6 : nat (T.2.1.2.1 2 i) < 6 := hR2.p6 hm.2
      obtain ⟨E, hE, hE2⟩ : ∃ E, T.2.1.2.1 3 i = nI E ∧ E < 2 := ⟨_, hm2⟩
      refine MV.iload_n dX12_passes_2 rfl ?_
      refine MV.aload_n dX12_passes_3 rfl ?_
      refine MV.getf 3 fl_X12_13 dX12_passes_4 (by decide) rfl ?_
      refine MV.iconst (v := nI 2) dX12_passes_7 (by decide) ?_
      refine MV.ald C12_in3 dX12_passes_8 (rfl) (by omega) (by decide) ?_
      refine MV.icmp_ge 63 dX12_passes_9 (by decide) (fun z => absurd z (by rw [rd1.1]; exact nI_ge (by omega) (by have := rd1.2; omega))) (fun _ => ?_)
      refine MV.aload_n dX12_passes_12 rfl ?_
      refine MV.getf 10 fl_X12_34 dX12_passes_13 (by decide) rfl ?_
      refine MV.iload_n dX12_passes_16 rfl ?_
      refine MV.ald C12_in10 dX12_passes_17 (rfl) (by have := rd1.2; omega) (by decide) ?_
      refine MV.aload_n dX12_passes_18 rfl ?_
      refine MV.getf 36 fl_X12_75 dX12_passes_19 (by decide) rfl ?_
      refine MV.iload_n dX12_passes_22 rfl ?_
      refine MV.ald C12_in36 dX12_passes_23 (rfl) (by omega) (by decide) ?_
      refine MV.icmp_ne 57 dX12_passes_24 (by decide) (fun c24 => ?_) (fun c24 => ?_)
      · skip
        have hdu : dDue T.2.1 i (c2.1 7) 63 = false := by
          unfold dDue
          rw [e3, hR2.2.1.2.1, decide_eq_false c24, Bool.false_and]
        refine MV.iinc (v := 1) dX12_passes_57 rfl (by decide) (by decide) rfl ?_
        refine MV.goto 2 dX12_passes_60 (by decide) ?_
        refine MV.weak [some (.ref a), some (.int (nI r)), some (.int (bI byN)), some (.int (nI (i + 1))), none, none, none] (by simp [leL, sto1, sto2, k2c, nI_1]) ?_
        first
        | (have hst : lightsF T.2.1 63 (j + 1) i c2 = lightsF T.2.1 63 j (i + 1) c2 := by rw [lightsF, if_neg (by rw [hdu]; decide)]
           exact ih (i + 1) _ _ (by omega) hR2 f2 (by rw [← hq, hst]))
        | (have hst : lightsF T.2.1 63 (j + 1) i c2 = lightsF T.2.1 63 j (i + 1) (cLight c2 (nat (T.2.1.2.1 2 i)) (nI E)) := by rw [lightsF, if_pos hdu, cLightOrIdle, hE, if_pos (by rw [← hbe]; exact hb)]
           exact ih (i + 1) _ _ (by omega) (by rw [if_pos hb] at hR3; exact hR3) (f2.tr f3) (by rw [← hq, hst]))
        | (have hst : lightsF T.2.1 63 (j + 1) i c2 = lightsF T.2.1 63 j (i + 1) (cIdle c2) := by rw [lightsF, if_pos hdu, cLightOrIdle, hE, if_neg (by rw [← hbe, hb]; decide)]
           exact ih (i + 1) _ _ (by omega) (by rw [if_neg (by rw [hb]; decide)] at hR3; exact hR3.idle) ((f2.tr f3).tr (frR.q (by decide))) (by rw [← hq, hst]))
      · skip
        have hdu : dDue T.2.1 i (c2.1 7) 63 = true := by
          unfold dDue
          rw [e3, hR2.2.1.2.1, decide_eq_true c24, hm.1, lit63 _ hm6]; rfl
        refine MV.aload_n dX12_passes_27 rfl ?_
        refine MV.iload_n dX12_passes_28 rfl ?_
        refine MV.aload_n dX12_passes_29 rfl ?_
        refine MV.getf 8 fl_X12_28 dX12_passes_30 (by decide) rfl ?_
        refine MV.iload_n dX12_passes_33 rfl ?_
        refine MV.ald C12_in8 dX12_passes_34 (rfl) (by have := rd1.2; omega) (by decide) ?_
        refine MV.eqi (nI (nat (T.2.1.2.1 2 i))) (e1.symm.trans hm.1) ?_
        refine MV.aload_n dX12_passes_35 rfl ?_
        refine MV.getf 9 fl_X12_31 dX12_passes_36 (by decide) rfl ?_
        refine MV.iload_n dX12_passes_39 rfl ?_
        refine MV.ald C12_in9 dX12_passes_40 (rfl) (by have := rd1.2; omega) (by decide) ?_
        refine MV.eqi (nI E) (e2.symm.trans hE) ?_
        refine MV.cV3 yoX12_lights ml_X12_400 im_X12_lights se_X12_lights dX12_passes_41 rfl (Nat.le_of_ble_eq_true rfl) (by omega) rfl (Nat.le_of_ble_eq_true rfl) (lights_M (T := T) (c := c2) (p := nat (T.2.1.2.1 2 i)) (e := E) (by omega) hr hR2 hm.2 hE2) ?_
        rintro _ s3 ⟨b, rfl, hbe, hR3, f3⟩
        refine MV.if_ne 57 dX12_passes_44 (by decide) (fun c44 => ?_) (fun c44 => ?_)
        · skip
          have hb := bI_t c44
          refine MV.iinc (v := 1) dX12_passes_57 rfl (by decide) (by decide) rfl ?_
          refine MV.goto 2 dX12_passes_60 (by decide) ?_
          refine MV.weak [some (.ref a), some (.int (nI r)), some (.int (bI byN)), some (.int (nI (i + 1))), none, none, none] (by simp [leL, sto1, sto2, k2c, nI_1]) ?_
          first
          | (have hst : lightsF T.2.1 63 (j + 1) i c2 = lightsF T.2.1 63 j (i + 1) c2 := by rw [lightsF, if_neg (by rw [hdu]; decide)]
             exact ih (i + 1) _ _ (by omega) hR2 f2 (by rw [← hq, hst]))
          | (have hst : lightsF T.2.1 63 (j + 1) i c2 = lightsF T.2.1 63 j (i + 1) (cLight c2 (nat (T.2.1.2.1 2 i)) (nI E)) := by rw [lightsF, if_pos hdu, cLightOrIdle, hE, if_pos (by rw [← hbe]; exact hb)]
             exact ih (i + 1) _ _ (by omega) (by rw [if_pos hb] at hR3; exact hR3) (f2.tr f3) (by rw [← hq, hst]))
          | (have hst : lightsF T.2.1 63 (j + 1) i c2 = lightsF T.2.1 63 j (i + 1) (cIdle c2) := by rw [lightsF, if_pos hdu, cLightOrIdle, hE, if_neg (by rw [← hbe, hb]; decide)]
             exact ih (i + 1) _ _ (by omega) (by rw [if_neg (by rw [hb]; decide)] at hR3; exact hR3.idle) ((f2.tr f3).tr (frR.q (by decide))) (by rw [← hq, hst]))
        · skip
          have hb := bI_f c44
          refine MV.aload_n dX12_passes_47 rfl ?_
          refine MV.getf 39 fl_X12_84 dX12_passes_48 (by decide) rfl ?_
          refine MV.iload_n dX12_passes_51 rfl ?_
          refine MV.dup2 dX12_passes_52 rfl rfl ?_
          refine MV.ald C12_in39 dX12_passes_53 (rfl) (by omega) (by decide) ?_
          refine MV.iconst (v := 1) dX12_passes_54 (by decide) ?_
          refine MV.iadd dX12_passes_55 ?_
          refine MV.ast C12_in39 dX12_passes_56 (rfl) (by omega) (by decide) ?_
          refine MV.iinc (v := 1) dX12_passes_57 rfl (by decide) (by decide) rfl ?_
          refine MV.goto 2 dX12_passes_60 (by decide) ?_
          refine MV.weak [some (.ref a), some (.int (nI r)), some (.int (bI byN)), some (.int (nI (i + 1))), none, none, none] (by simp [leL, sto1, sto2, k2c, nI_1]) ?_
          first
          | (have hst : lightsF T.2.1 63 (j + 1) i c2 = lightsF T.2.1 63 j (i + 1) c2 := by rw [lightsF, if_neg (by rw [hdu]; decide)]
             exact ih (i + 1) _ _ (by omega) hR2 f2 (by rw [← hq, hst]))
          | (have hst : lightsF T.2.1 63 (j + 1) i c2 = lightsF T.2.1 63 j (i + 1) (cLight c2 (nat (T.2.1.2.1 2 i)) (nI E)) := by rw [lightsF, if_pos hdu, cLightOrIdle, hE, if_pos (by rw [← hbe]; exact hb)]
             exact ih (i + 1) _ _ (by omega) (by rw [if_pos hb] at hR3; exact hR3) (f2.tr f3) (by rw [← hq, hst]))
          | (have hst : lightsF T.2.1 63 (j + 1) i c2 = lightsF T.2.1 63 j (i + 1) (cIdle c2) := by rw [lightsF, if_pos hdu, cLightOrIdle, hE, if_neg (by rw [← hbe, hb]; decide)]
             exact ih (i + 1) _ _ (by omega) (by rw [if_neg (by rw [hb]; decide)] at hR3; exact hR3.idle) ((f2.tr f3).tr (frR.q (by decide))) (by rw [← hq, hst]))
  refine MV.iconst (v := nI 0) dX12_passes_0 (by decide) ?_
  refine MV.istore_n dX12_passes_1 (by decide) rfl ?_
  refine MV.weak [some (.ref a), some (.int (nI r)), some (.int (bI byN)), some (.int (nI 0)), none, none, none] (by simp [leL, sto1, sto2, k2c]) ?_
  exact h2 (nat (T.2.1.1 0)) 0 s c (by omega) hR frR.rf hRR
