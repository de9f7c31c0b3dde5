/-! Laws.worth: an E in a row is worked out -/
def wPick (own : Int32 → Int32 → Int64) (kd nm : Int32) (st : List Int64) : Option (Int64 × List Int64) :=
  if takesN kd = 0 then some (own kd nm, st) else if takesN kd = 1 then (match st with
    | x :: r => some (joinL kd x 0, r)
    | _ => none) else (match st with
    | y :: x :: r => some (joinL kd x y, r)
    | _ => none)
def wPut (v : Int64) (r : List Int64) : Option (List Int64) := if 64 ≤ r.length then none else if 1000000000000 < v then none else if v < -1000000000000 then none else some (v :: r)
def wStep (own : Int32 → Int32 → Int64) (kd nm : Int32) (st : List Int64) : Option (List Int64) := match wPick own kd nm st with
  | some q => wPut q.1 q.2
  | none => none
def wRun (own : Int32 → Int32 → Int64) (ks ns : Nat → Int32) : Nat → Nat → List Int64 → Int64
  | 0, _, [v] => v
  | 0, _, _ => ERR
  | n + 1, k, st => match wStep own (ks k) (ns k) st with
    | some st' => wRun own ks ns n (k + 1) st'
    | none => ERR
def isL (h : Hp) (a : Nat) (s : St) : Prop := ∃ g : Nat → Int64, isR C4 h a (s.1, s.2.1, uR s.2.2.1 6 g, s.2.2.2)
theorem isL.kept {h h' : Hp} {a : Nat} {s : St} (H : isL h a s) (hk : ∀ b : Nat, a ≤ b → b < a + 6 → h' b = h b) : isL h' a s := by
  obtain ⟨g, H⟩ := H
  exact ⟨g, H.kept C4_ok hk⟩
theorem uJ_uR {F : Nat → Nat → Int64} {k i : Nat} {g : Nat → Int64} {v : Int64} : uJ (uR F k g) k i v = uR F k (vp_updL g i v) := by
  funext j
  unfold uJ uR
  split <;> simp_all
theorem takesN_le (k : Int32) : takesN k ≤ 2 := by
  unfold takesN
  split
  · omega
  · split <;> omega
/-- the row holds the stack, its first one deepest -/
def stk (g : Nat → Int64) (st : List Int64) : Prop := ∀ j, j < st.length → g j = st.reverse.getD j 0
theorem stk_nil {g : Nat → Int64} : stk g [] := fun j hj => by simp at hj
theorem stk_drop {g : Nat → Int64} {x : Int64} {r : List Int64} (h : stk g (x :: r)) : stk g r ∧ g r.length = x := by
  refine ⟨fun j hj => ?_, ?_⟩
  · have := h j (by simp; omega)
    rw [this]
    simp [List.getD_eq_getElem?_getD, List.getElem?_append_left (show j < r.reverse.length by simpa using hj)]
  · have := h r.length (by simp)
    rw [this]
    simp [List.getD_eq_getElem?_getD]
theorem stk_push {g : Nat → Int64} {r : List Int64} (v : Int64) (h : stk g r) : stk (vp_updL g r.length v) (v :: r) := by
  intro j hj
  simp only [List.length_cons] at hj
  unfold vp_updL
  by_cases e : j = r.length
  · subst e
    simp [List.getD_eq_getElem?_getD]
  · rw [if_neg e, h j (by omega)]
    simp [List.getD_eq_getElem?_getD, List.getElem?_append_left (show j < r.reverse.length by simp; omega)]
set_option maxRecDepth 100000 in
set_option maxHeartbeats 4000000 in
theorem worth_V {d n0 : Nat} {κ : Kd} (hd : 4 ≤ d) {h : Hp} {a b0 i r f t : Nat} {s c : St} {windy : Bool} (HL : isL h a s) (HC : isR C0 h b0 c) (hap : a + 6 ≤ b0 ∨ b0 + 7 ≤ a) (hf : s.2.1 4 r = nI f) (ht : s.2.1 5 r = nI t) (hf2 : f ≤ 64) (ht2 : t ≤ 64) (hi : i < 6) (hr : r < 3) : V MX4_worth (d, 0, 0, n0, κ) 0 0 h 0 [some (.ref a), some (.int (nI r)), some (.ref (b0)), some (.int (nI i)), some (.int (bI windy)), none, none, none, none, none] [] (fun v h' => v = some (.long (wRun (ownL c i windy) (s.2.1 2) (s.2.1 3) (t - f) f [])) ∧ isL h' a s ∧ ∀ b : Nat, (b < a ∨ a + 6 ≤ b) → h' b = h b) := by
  obtain ⟨g, H⟩ := HL
  refine V.aload_n dX4_worth_0 rfl ?_
  refine V.iload_n dX4_worth_1 rfl ?_
  refine V.cV1 (ci := 4) yoX4_isTold ml_X4_41 im_X4_isTold se_X4_isTold dX4_worth_2 rfl H.1 (Nat.le_of_ble_eq_true rfl) (by omega) ⟨Nat.le_refl _, Nat.le_refl _⟩ rfl (Nat.le_of_ble_eq_true rfl) (lTold_V (by omega) H hr) (V.rdK ?_)
  refine V.if_ne 12 dX4_worth_5 (by decide) (fun c5 => ?_) (fun c5 => ?_)
  · skip
    refine V.iconst (v := nI 0) dX4_worth_12 (by decide) ?_
    refine V.istore dX4_worth_13 (by decide) rfl ?_
    refine V.aload_n dX4_worth_15 rfl ?_
    refine V.getf okX4 4 fl_X4_18 dX4_worth_16 (by decide) H.1 rfl ?_
    refine V.iload_n dX4_worth_19 rfl ?_
    refine V.ialdN dX4_worth_20 (C4_r4 H) (rfl) (by omega) (by decide) ?_
    refine V.istore dX4_worth_21 (by decide) rfl ?_
    suffices hL : ∀ (n kk : Nat) (st : List Int64) (g : Nat → Int64) (h2 : Hp), kk + n = t → st.length ≤ 64 → stk g st → isR C4 h2 a (s.1, s.2.1, uR s.2.2.1 6 g, s.2.2.2) → isR C0 h2 b0 c → (∀ b : Nat, (b < a ∨ a + 6 ≤ b) → h2 b = h b) → wRun (ownL c i windy) (s.2.1 2) (s.2.1 3) n kk st = wRun (ownL c i windy) (s.2.1 2) (s.2.1 3) (t - f) f [] → V MX4_worth (d, 0, 0, n0, κ) 0 0 h2 23 [some (.ref a), some (.int (nI r)), some (.ref (b0)), some (.int (nI i)), some (.int (bI windy)), some (.int (nI st.length)), some (.int (nI kk)), none, none, none] [] (fun v h' => v = some (.long (wRun (ownL c i windy) (s.2.1 2) (s.2.1 3) (t - f) f [])) ∧ isL h' a s ∧ ∀ b : Nat, (b < a ∨ a + 6 ≤ b) → h' b = h b) from by
      rw [hf]
      have q := bI_t c5
      simp only [lTold, decide_eq_true_eq] at q
      rw [hf, ht] at q
      have q2 : f < t := by
        rcases Nat.lt_or_ge f t with z | z
        · exact z
        · exact absurd (nI_le z (by omega)) q
      exact hL (t - f) f [] g h (by omega) (by simp) stk_nil H HC (fun _ _ => rfl) rfl
    intro n
    induction n with
    | zero =>
      intro kk st g h2 hik hst hg H HC hfr hv
      have hkt : kk = t := by omega
      subst hkt
      refine V.iload dX4_worth_23 rfl ?_
      refine V.aload_n dX4_worth_25 rfl ?_
      refine V.getf okX4 5 fl_X4_21 dX4_worth_26 (by decide) H.1 rfl ?_
      refine V.iload_n dX4_worth_29 rfl ?_
      refine V.ialdN dX4_worth_30 (C4_r5 H) (rfl) (by omega) (by decide) ?_
      refine V.icmp_ge 170 dX4_worth_31 (by decide) (fun _ => ?_) (fun z => absurd (by show s.2.1 5 r ≤ nI kk; rw [ht]; exact nI_le (Nat.le_refl _) (by omega)) z)
      refine V.iload dX4_worth_170 rfl ?_
      refine V.iconst (v := 1) dX4_worth_172 (by decide) ?_
      refine V.icmp_ne 185 dX4_worth_173 (by decide) (fun c173 => ?_) (fun c173 => ?_)
      · skip
        refine V.ldc2 kc_X4_45 dX4_worth_185 ?_
        refine V.lret dX4_worth_188 rfl ?_
        exact ⟨by rw [← hv]; match st, hg, hst, c173 with
          | [x], hg, _, q => first | (rw [(stk_drop hg).2.symm]; rfl) | exact absurd (by rfl : nI [x].length = 1) q
          | [], _, _, q => first | rfl | exact absurd q (by decide)
          | x :: y :: r3, _, hl, q => first | rfl | exact absurd q (fun z => by have := (nI_eq (by omega) (by decide)).mp (show nI (x :: y :: r3).length = nI 1 from z); simp at this), ⟨_, H⟩, hfr⟩
      · skip
        refine V.aload_n dX4_worth_176 rfl ?_
        refine V.getf okX4 6 fl_X4_24 dX4_worth_177 (by decide) H.1 rfl ?_
        refine V.iconst (v := nI 0) dX4_worth_180 (by decide) ?_
        refine V.laldN dX4_worth_181 (C4_r6 H) (rfl) (by decide) (by decide) ?_
        refine V.goto 188 dX4_worth_182 (by decide) ?_
        refine V.lret dX4_worth_188 rfl ?_
        exact ⟨by rw [← hv]; match st, hg, hst, c173 with
          | [x], hg, _, q => first | (rw [(stk_drop hg).2.symm]; rfl) | exact absurd (by rfl : nI [x].length = 1) q
          | [], _, _, q => first | rfl | exact absurd q (by decide)
          | x :: y :: r3, _, hl, q => first | rfl | exact absurd q (fun z => by have := (nI_eq (by omega) (by decide)).mp (show nI (x :: y :: r3).length = nI 1 from z); simp at this), ⟨_, H⟩, hfr⟩
    | succ n ih =>
      intro kk st g h2 hik hst hg H HC hfr hv
      have hkk : kk < 64 := by omega
      have htk := takesN_le (s.2.1 2 kk)
      have key : ∀ (v : Int64) (r2 : List Int64), wPick (ownL c i windy) (s.2.1 2 kk) (s.2.1 3 kk) st = some (v, r2) → r2.length < 64 → stk g r2 → V MX4_worth (d, 0, 0, n0, κ) 0 0 h2 128 [some (.ref a), some (.int (nI r)), some (.ref (b0)), some (.int (nI i)), some (.int (bI windy)), some (.int (nI r2.length)), some (.int (nI kk)), some (.int (nI (takesN (s.2.1 2 kk)))), none, none] [.long v] (fun v h' => v = some (.long (wRun (ownL c i windy) (s.2.1 2) (s.2.1 3) (t - f) f [])) ∧ isL h' a s ∧ ∀ b : Nat, (b < a ∨ a + 6 ≤ b) → h' b = h b) := by
        intro v r2 hp hr2 hg2
        refine V.lstore dX4_worth_128 (by decide) rfl ?_
        refine V.lload dX4_worth_130 rfl ?_
        refine V.ldc2 kc_X4_59 dX4_worth_132 ?_
        refine V.lcmp dX4_worth_135 ?_
        refine V.if_gt 148 dX4_worth_136 (by decide) (fun c136 => ?_) (fun c136 => ?_)
        · skip
          refine V.ldc2 kc_X4_45 dX4_worth_148 ?_
          refine V.lret dX4_worth_151 rfl ?_
          exact ⟨by rw [← hv]; simp only [wRun, wStep, hp, wPut]; rw [if_neg (by omega)]; first | rw [if_pos ((lg_cmp_gt _ _).mp c136)] | (rw [if_neg (fun z => c136 ((lg_cmp_gt _ _).mpr z)), if_pos (by rcases Classical.em (v < -1000000000000) with z | z; exact z; exact absurd ((lg_cmp_ge _ _).mpr (Int64.not_lt.mp z)) c145)])
                    rfl, ⟨_, H⟩, hfr⟩
        · skip
          refine V.lload dX4_worth_139 rfl ?_
          refine V.ldc2 kc_X4_61 dX4_worth_141 ?_
          refine V.lcmp dX4_worth_144 ?_
          refine V.if_ge 152 dX4_worth_145 (by decide) (fun c145 => ?_) (fun c145 => ?_)
          · skip
            refine V.aload_n dX4_worth_152 rfl ?_
            refine V.getf okX4 6 fl_X4_24 dX4_worth_153 (by decide) H.1 rfl ?_
            refine V.iload dX4_worth_156 rfl ?_
            refine V.lload dX4_worth_158 rfl ?_
            refine V.lastH dX4_worth_160 (C4_r6 H) (rfl) (by omega) (by decide) (fun h1 eh1 oh1 => ?_)
            have H := isR.setJ C4_ok H C4_in6 _ _ eh1 oh1
            have HC := HC.kept C0_ok (fun b hb1 hb2 => oh1 b (by have hb3 : b < _ := hb2; simp only [C0] at hb3; omega))
            have hfr : ∀ b : Nat, (b < a ∨ a + 6 ≤ b) → h1 b = h b := fun b hb => (oh1 b (by omega)).trans (hfr b hb)
            refine V.iinc (v := 1) dX4_worth_161 rfl (by decide) (by decide) rfl ?_
            refine V.iinc (v := 1) dX4_worth_164 rfl (by decide) (by decide) rfl ?_
            refine V.goto 23 dX4_worth_167 (by decide) ?_
            refine V.weak [some (.ref a), some (.int (nI r)), some (.ref (b0)), some (.int (nI i)), some (.int (bI windy)), some (.int (nI (v :: r2).length)), some (.int (nI (kk + 1))), none, none, none] (by simp [leL, sto1, sto2, k2c, nI_1]) ?_
            have H : isR C4 h1 a (s.1, s.2.1, uR s.2.2.1 6 (vp_updL g r2.length v), s.2.2.2) := by rw [← uJ_uR]; exact H
            exact ih (kk + 1) (v :: r2) _ _ (by omega) (by simp; omega) (stk_push v hg2) H HC hfr (by rw [← hv]; simp only [wRun, wStep, hp, wPut]; rw [if_neg (by omega), if_neg (fun z => c136 ((lg_cmp_gt _ _).mpr z)), if_neg (fun z => absurd ((lg_cmp_ge _ _).mp c145) (Int64.not_le.mpr z))])
          · skip
            refine V.ldc2 kc_X4_45 dX4_worth_148 ?_
            refine V.lret dX4_worth_151 rfl ?_
            exact ⟨by rw [← hv]; simp only [wRun, wStep, hp, wPut]; rw [if_neg (by omega)]; first | rw [if_pos ((lg_cmp_gt _ _).mp c136)] | (rw [if_neg (fun z => c136 ((lg_cmp_gt _ _).mpr z)), if_pos (by rcases Classical.em (v < -1000000000000) with z | z; exact z; exact absurd ((lg_cmp_ge _ _).mpr (Int64.not_lt.mp z)) c145)])
                      rfl, ⟨_, H⟩, hfr⟩
      refine V.iload dX4_worth_23 rfl ?_
      refine V.aload_n dX4_worth_25 rfl ?_
      refine V.getf okX4 5 fl_X4_21 dX4_worth_26 (by decide) H.1 rfl ?_
      refine V.iload_n dX4_worth_29 rfl ?_
      refine V.ialdN dX4_worth_30 (C4_r5 H) (rfl) (by omega) (by decide) ?_
      refine V.icmp_ge 170 dX4_worth_31 (by decide) (fun z => absurd z (by show ¬ s.2.1 5 r ≤ nI kk; rw [ht]; exact nI_ge (by omega) (by omega))) (fun _ => ?_)
      refine V.aload_n dX4_worth_34 rfl ?_
      refine V.getf okX4 2 fl_X4_9 dX4_worth_35 (by decide) H.1 rfl ?_
      refine V.iload dX4_worth_38 rfl ?_
      refine V.ialdN dX4_worth_40 (C4_r2 H) (rfl) (by omega) (by decide) ?_
      refine V.cS1 yoX4_takenBy ml_X4_47 st_X4_takenBy dX4_worth_41 (Nat.le_of_ble_eq_true rfl) (by omega) ⟨Nat.le_refl _, Nat.le_refl _⟩ rfl (Nat.le_of_ble_eq_true rfl) (takes_V (by omega)) (V.rdK ?_)
      refine V.istore dX4_worth_44 (by decide) rfl ?_
      refine V.iload dX4_worth_46 rfl ?_
      refine V.iload dX4_worth_48 rfl ?_
      
      have hlen : ∀ (q : Nat), st.length < q → q ≤ takesN (s.2.1 2 kk) → wPick (ownL c i windy) (s.2.1 2 kk) (s.2.1 3 kk) st = none := by
        intro q h1 h2
        unfold wPick
        rw [if_neg (by omega)]
        split
        · match st, h1 with
          | [], _ => rfl
          | x :: r2, h1 => simp at h1; omega
        · match st, h1 with
          | [], _ => rfl
          | [x], _ => rfl
          | x :: y :: r2, h1 => simp at h1; omega
      refine V.icmp_lt 63 dX4_worth_50 (by decide) (fun c50 => ?_) (fun c50 => ?_)
      · skip
        have hlt : st.length < takesN (s.2.1 2 kk) := (nI_ltI (by omega) (by omega)).mp c50
        refine V.ldc2 kc_X4_45 dX4_worth_63 ?_
        refine V.lret dX4_worth_66 rfl ?_
        exact ⟨by rw [← hv]; simp only [wRun, wStep, hlen _ hlt (Nat.le_refl _)]; rfl, ⟨_, H⟩, hfr⟩
      · skip
        have hge : takesN (s.2.1 2 kk) ≤ st.length := by
          rcases Nat.lt_or_ge st.length (takesN (s.2.1 2 kk)) with z | z
          · exact absurd ((nI_ltI (by omega) (by omega)).mpr z) c50
          · exact z
        refine V.iload dX4_worth_53 rfl ?_
        refine V.iload dX4_worth_55 rfl ?_
        refine V.isub dX4_worth_57 ?_
        rw [pk_sub hge]
        refine V.bipush (v := nI 64) dX4_worth_58 (by decide) ?_
        obtain ⟨vp, rp, hpk, hrl, hgr, hx1, hx2⟩ : ∃ (vp : Int64) (rp : List Int64), wPick (ownL c i windy) (s.2.1 2 kk) (s.2.1 3 kk) st = some (vp, rp) ∧ rp.length = st.length - takesN (s.2.1 2 kk) ∧ stk g rp ∧ (takesN (s.2.1 2 kk) = 0 → vp = (ownL c i windy) (s.2.1 2 kk) (s.2.1 3 kk)) ∧ (¬ takesN (s.2.1 2 kk) = 0 → vp = joinL (s.2.1 2 kk) (g rp.length) (if takesN (s.2.1 2 kk) = 2 then g (rp.length + 1) else 0)) := by
          unfold wPick
          by_cases e0 : takesN (s.2.1 2 kk) = 0
          · exact ⟨_, _, if_pos e0, by rw [e0]; rfl, hg, fun _ => rfl, fun z => absurd e0 z⟩
          · rw [if_neg e0]
            by_cases e1 : takesN (s.2.1 2 kk) = 1
            · rw [if_pos e1]
              match st, hg, hge with
              | [], _, hge => simp at hge; omega
              | x :: r2, hg, _ =>
                have q := stk_drop hg
                exact ⟨_, _, rfl, by rw [e1]; simp, q.1, fun z => absurd z e0, fun _ => by rw [if_neg (by omega), q.2]⟩
            · rw [if_neg e1]
              match st, hg, hge with
              | [], _, hge => simp at hge; omega
              | [x], _, hge => simp at hge; omega
              | y :: x :: r2, hg, _ =>
                have q := stk_drop hg
                have q3 := stk_drop q.1
                exact ⟨_, _, rfl, by rw [show takesN (s.2.1 2 kk) = 2 by omega]; simp, q3.1, fun z => absurd z e0, fun _ => by rw [if_pos (show takesN (s.2.1 2 kk) = 2 by omega), q3.2, ← q.2]; simp⟩
        rw [← hrl]
        refine V.icmp_lt 67 dX4_worth_60 (by decide) (fun c60 => ?_) (fun c60 => ?_)
        · skip
          have hr64 : rp.length < 64 := (nI_ltI (by omega) (by decide)).mp c60
          have hJ := key vp rp hpk hr64 hgr
          refine V.iload dX4_worth_67 rfl ?_
          refine V.iload dX4_worth_69 rfl ?_
          refine V.isub dX4_worth_71 ?_
          rw [pk_sub hge, ← hrl]
          refine V.istore dX4_worth_72 (by decide) rfl ?_
          refine V.iload dX4_worth_74 rfl ?_
          refine V.if_ne 92 dX4_worth_76 (by decide) (fun c76 => ?_) (fun c76 => ?_)
          · skip
            have e0 : ¬ takesN (s.2.1 2 kk) = 0 := fun z => c76 (by rw [z]; rfl)
            rw [hx2 e0] at hJ
            refine V.aload_n dX4_worth_92 rfl ?_
            refine V.getf okX4 2 fl_X4_9 dX4_worth_93 (by decide) H.1 rfl ?_
            refine V.iload dX4_worth_96 rfl ?_
            refine V.ialdN dX4_worth_98 (C4_r2 H) (rfl) (by omega) (by decide) ?_
            refine V.aload_n dX4_worth_99 rfl ?_
            refine V.getf okX4 6 fl_X4_24 dX4_worth_100 (by decide) H.1 rfl ?_
            refine V.iload dX4_worth_103 rfl ?_
            refine V.laldN dX4_worth_105 (C4_r6 H) (rfl) (by omega) (by decide) ?_
            refine V.iload dX4_worth_106 rfl ?_
            refine V.iconst (v := 2) dX4_worth_108 (by decide) ?_
            refine V.icmp_ne 124 dX4_worth_109 (by decide) (fun c109 => ?_) (fun c109 => ?_)
            · skip
              have e2 : ¬ takesN (s.2.1 2 kk) = 2 := fun z => c109 (by rw [z]; rfl)
              rw [if_neg e2] at hJ
              refine V.lconst (v := 0) dX4_worth_124 (by decide) ?_
              refine V.cS3 yoX4_joined ml_X4_55 st_X4_joined dX4_worth_125 (Nat.le_of_ble_eq_true rfl) (by omega) ⟨Nat.le_refl _, Nat.le_refl _⟩ rfl (Nat.le_of_ble_eq_true rfl) (joinL_V (by omega)) (V.rdK ?_)
              refine V.weak [some (.ref a), some (.int (nI r)), some (.ref (b0)), some (.int (nI i)), some (.int (bI windy)), some (.int (nI rp.length)), some (.int (nI kk)), some (.int (nI (takesN (s.2.1 2 kk)))), none, none] (by simp [leL, sto1, sto2, k2c]) ?_
              exact hJ
            · skip
              have e2 : takesN (s.2.1 2 kk) = 2 := (nI_eq (by omega) (by decide)).mp (show nI (takesN (s.2.1 2 kk)) = nI 2 from c109)
              rw [if_pos e2] at hJ
              refine V.aload_n dX4_worth_112 rfl ?_
              refine V.getf okX4 6 fl_X4_24 dX4_worth_113 (by decide) H.1 rfl ?_
              refine V.iload dX4_worth_116 rfl ?_
              refine V.iconst (v := 1) dX4_worth_118 (by decide) ?_
              refine V.iadd dX4_worth_119 ?_
              refine V.laldN dX4_worth_120 (C4_r6 H) (nI_1 _) (by omega) (by decide) ?_
              refine V.goto 125 dX4_worth_121 (by decide) ?_
              refine V.cS3 yoX4_joined ml_X4_55 st_X4_joined dX4_worth_125 (Nat.le_of_ble_eq_true rfl) (by omega) ⟨Nat.le_refl _, Nat.le_refl _⟩ rfl (Nat.le_of_ble_eq_true rfl) (joinL_V (by omega)) (V.rdK ?_)
              refine V.weak [some (.ref a), some (.int (nI r)), some (.ref (b0)), some (.int (nI i)), some (.int (bI windy)), some (.int (nI rp.length)), some (.int (nI kk)), some (.int (nI (takesN (s.2.1 2 kk)))), none, none] (by simp [leL, sto1, sto2, k2c]) ?_
              exact hJ
          · skip
            have e0 : takesN (s.2.1 2 kk) = 0 := (nI_eq (by omega) (by decide)).mp (c76.trans nI_0.symm)
            rw [hx1 e0] at hJ
            refine V.aload_n dX4_worth_79 rfl ?_
            refine V.iload dX4_worth_80 rfl ?_
            refine V.aload_n dX4_worth_82 rfl ?_
            refine V.iload_n dX4_worth_83 rfl ?_
            refine V.iload dX4_worth_84 rfl ?_
            refine V.cV4 (ci := 4) yoX4_ownWorth ml_X4_51 im_X4_ownWorth se_X4_ownWorth dX4_worth_86 rfl H.1 (Nat.le_of_ble_eq_true rfl) (by omega) ⟨Nat.le_refl _, Nat.le_refl _⟩ rfl (Nat.le_of_ble_eq_true rfl) (ownL_V (by omega) H HC hkk hi) (V.rdK ?_)
            refine V.goto 128 dX4_worth_89 (by decide) ?_
            refine V.weak [some (.ref a), some (.int (nI r)), some (.ref (b0)), some (.int (nI i)), some (.int (bI windy)), some (.int (nI rp.length)), some (.int (nI kk)), some (.int (nI (takesN (s.2.1 2 kk)))), none, none] (by simp [leL, sto1, sto2, k2c]) ?_
            exact hJ
        · skip
          refine V.ldc2 kc_X4_45 dX4_worth_63 ?_
          refine V.lret dX4_worth_66 rfl ?_
          have hr64 : 64 ≤ rp.length := by
            rcases Nat.lt_or_ge rp.length 64 with z | z
            · exact absurd (show nI rp.length < nI 64 from (nI_ltI (by omega) (by decide)).mpr z) c60
            · exact z
          exact ⟨by rw [← hv]; simp only [wRun, wStep, hpk, wPut]; rw [if_pos hr64]; rfl, ⟨_, H⟩, hfr⟩
  · skip
    refine V.ldc2 kc_X4_45 dX4_worth_8 ?_
    refine V.lret dX4_worth_11 rfl ?_
    exact ⟨by rw [show t - f = 0 by have q := bI_f c5; simp only [lTold, decide_eq_false_iff_not, Classical.not_not] at q; rw [hf, ht] at q; have q2 := (nI_leI (by omega) (by omega)).mp q; omega]; rfl, ⟨_, H⟩, fun _ _ => rfl⟩
