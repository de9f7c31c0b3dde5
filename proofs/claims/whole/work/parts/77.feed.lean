/-! The model: feed -/
def pickF (a b c e f : Int32) (i : Nat) : Int32 := if i < 4 then a else if i < 8 then b else if i < 12 then c else if i < 16 then e else f
def byteF (x : Int32) (i : Nat) : Int32 := (x >>> (nI (24 - 8 * (i % 4)) &&& 31)) &&& 255
/-- the TAPE with so many of the 20 bytes -/
def feedF (a b c e f : Int32) (r : Nat → Int32) (t : Nat) : Nat → Nat → Int32
  | 0 => r
  | i + 1 => upd (feedF a b c e f r t i) (t + i) (byteF (pickF a b c e f i) i)
theorem sh24 : ∀ i, i < 20 → (24 : Int32) - 8 * (nI i - nI i / 4 * 4) = nI (24 - 8 * (i % 4)) := by decide +kernel
/-- only the TAPE changes -/
def frT (s s' : St) : Prop := (∀ j, j ≠ 0 → j ≠ 2 → s'.1 j = s.1 j) ∧ ∀ k, ¬ k = 1 → s'.2.1 k = s.2.1 k
set_option maxRecDepth 100000 in
set_option maxHeartbeats 2000000 in
theorem feed_M {d n0 a : Nat} {κ : Kd} {h0 : Hp} (hd : 1 ≤ d) {s : St} {t : Nat} (ht : t ≤ 700) (e2 : s.1 2 = nI t) {x1 x2 x3 x4 x5 : Int32} : MV MX12_feed (d, 0, 0, n0, κ) a h0 s 0 [some (.ref a), some (.int (x1)), some (.int (x2)), some (.int (x3)), some (.int (x4)), some (.int (x5)), none, none] [] (fun v s' => v = some (.int (if t ≤ 680 then nI (t + 20) else -1)) ∧ s'.1 2 = (if t ≤ 680 then nI (t + 20) else nI t) ∧ s'.2.1 1 = (if t ≤ 680 then feedF x1 x2 x3 x4 x5 (s.2.1 1) t 20 else s.2.1 1) ∧ frT s s') := by
  have hL : t ≤ 680 → ∀ (k i : Nat) (s2 : St), i + k = 20 → s2.1 = (mI s 0 0).1 → s2.2.1 1 = feedF x1 x2 x3 x4 x5 (s.2.1 1) t i → (∀ k, ¬ k = 1 → s2.2.1 k = s.2.1 k) → MV MX12_feed (d, 0, 0, n0, κ) a h0 s2 20 [some (.ref a), some (.int x1), some (.int x2), some (.int x3), some (.int x4), some (.int x5), some (.int (nI i)), none] [] (fun v s' => v = some (.int (if t ≤ 680 then nI (t + 20) else -1)) ∧ s'.1 2 = (if t ≤ 680 then nI (t + 20) else nI t) ∧ s'.2.1 1 = (if t ≤ 680 then feedF x1 x2 x3 x4 x5 (s.2.1 1) t 20 else s.2.1 1) ∧ frT s s') := by
    intro h6 k
    induction k with
    | zero =>
      intro i s2 hik h1 h3 h4
      have hin : i = 20 := by omega
      subst hin
      refine MV.iload dX12_feed_20 rfl ?_
      refine MV.bipush (v := 20) dX12_feed_22 (by decide) ?_
      refine MV.icmp_ge 110 dX12_feed_24 (by decide) (fun _ => ?_) (fun z => absurd (nI_le (a := 20) (b := 20) (by omega) (by omega)) z)
      refine MV.aload_n dX12_feed_110 rfl ?_
      refine MV.dup dX12_feed_111 rfl ?_
      refine MV.getf 2 fl_X12_151 dX12_feed_112 (by decide) rfl ?_
      refine MV.bipush (v := 20) dX12_feed_115 (by decide) ?_
      refine MV.iadd dX12_feed_117 ?_
      refine MV.putf 2 fl_X12_151 dX12_feed_118 (by decide) rfl (rfl) (rfl) C12_s2 ?_
      refine MV.aload_n dX12_feed_121 rfl ?_
      refine MV.getf 2 fl_X12_151 dX12_feed_122 (by decide) rfl ?_
      refine MV.iret dX12_feed_125 rfl ?_
      rw [if_pos h6, if_pos h6, if_pos h6]
      have e : s2.1 2 + 20 = nI (t + 20) := by rw [h1]; exact (congrArg (· + 20) e2).trans (nI_add t 20)
      exact ⟨congrArg (fun y => some (Value.int y)) e, e, h3, fun j a b => (upd_ne b).trans ((congrFun h1 j).trans (upd_ne a)), fun k hk => h4 k hk⟩
    | succ k ih =>
      intro i s2 hik h1 h3 h4
      have hi : i < 20 := by omega
      have e3 : s2.1 2 + nI i = nI (t + i) := by
        have : s2.1 2 = nI t := by rw [h1]; exact e2
        rw [this]
        exact nI_add t i
      have hb : ∀ x : Int32, pickF x1 x2 x3 x4 x5 i = x → (x >>> ((24 - 8 * (nI i - nI i / 4 * 4)) &&& 31)) &&& 255 = byteF (pickF x1 x2 x3 x4 x5 i) i := fun x hx => by
        unfold byteF
        rw [sh24 i hi, hx]
      refine MV.iload dX12_feed_20 rfl ?_
      refine MV.bipush (v := 20) dX12_feed_22 (by decide) ?_
      refine MV.icmp_ge 110 dX12_feed_24 (by decide) (fun z => absurd z (nI_ge (b := 20) (by omega) (by omega))) (fun _ => ?_)
      refine MV.iload dX12_feed_27 rfl ?_
      refine MV.iconst (v := 4) dX12_feed_29 (by decide) ?_
      refine MV.icmp_ge 37 dX12_feed_30 (by decide) (fun c30 => ?_) (fun c30 => ?_)
      · skip
        have q4 : 4 ≤ i := Nat.not_lt.mp fun z => nI_ge (a := i) (b := 4) z (by omega) c30
        refine MV.iload dX12_feed_37 rfl ?_
        refine MV.bipush (v := 8) dX12_feed_39 (by decide) ?_
        refine MV.icmp_ge 48 dX12_feed_41 (by decide) (fun c41 => ?_) (fun c41 => ?_)
        · skip
          have q8 : 8 ≤ i := Nat.not_lt.mp fun z => nI_ge (a := i) (b := 8) z (by omega) c41
          refine MV.iload dX12_feed_48 rfl ?_
          refine MV.bipush (v := 12) dX12_feed_50 (by decide) ?_
          refine MV.icmp_ge 59 dX12_feed_52 (by decide) (fun c52 => ?_) (fun c52 => ?_)
          · skip
            have q12 : 12 ≤ i := Nat.not_lt.mp fun z => nI_ge (a := i) (b := 12) z (by omega) c52
            refine MV.iload dX12_feed_59 rfl ?_
            refine MV.bipush (v := 16) dX12_feed_61 (by decide) ?_
            refine MV.icmp_ge 71 dX12_feed_63 (by decide) (fun c63 => ?_) (fun c63 => ?_)
            · skip
              have q16 : 16 ≤ i := Nat.not_lt.mp fun z => nI_ge (a := i) (b := 16) z (by omega) c63
              refine MV.iload dX12_feed_71 rfl ?_
              refine MV.istore dX12_feed_73 (by decide) rfl ?_
              refine MV.aload_n dX12_feed_75 rfl ?_
              refine MV.getf 1 fl_X12_7 dX12_feed_76 (by decide) rfl ?_
              refine MV.aload_n dX12_feed_79 rfl ?_
              refine MV.getf 2 fl_X12_151 dX12_feed_80 (by decide) rfl ?_
              refine MV.iload dX12_feed_83 rfl ?_
              refine MV.iadd dX12_feed_85 ?_
              refine MV.iload dX12_feed_86 rfl ?_
              refine MV.bipush (v := 24) dX12_feed_88 (by decide) ?_
              refine MV.bipush (v := 8) dX12_feed_90 (by decide) ?_
              refine MV.iload dX12_feed_92 rfl ?_
              refine MV.iconst (v := 4) dX12_feed_94 (by decide) ?_
              refine MV.irem dX12_feed_95 (by decide) ?_
              refine MV.imul dX12_feed_96 ?_
              refine MV.isub dX12_feed_97 ?_
              refine MV.ishr dX12_feed_98 ?_
              refine MV.sipush (v := 255) dX12_feed_99 (by decide) ?_
              refine MV.iand dX12_feed_102 ?_
              refine MV.eqi (byteF (pickF x1 x2 x3 x4 x5 i) i) (hb _ (by
                unfold pickF
                first
                  | rw [if_pos (by omega)]; done
                  | rw [if_neg (by omega), if_pos (by omega)]; done
                  | rw [if_neg (by omega), if_neg (by omega), if_pos (by omega)]; done
                  | rw [if_neg (by omega), if_neg (by omega), if_neg (by omega), if_pos (by omega)]; done
                  | rw [if_neg (by omega), if_neg (by omega), if_neg (by omega), if_neg (by omega)])) ?_
              refine MV.ast C12_in1 dX12_feed_103 (e3) (by omega) (by decide) ?_
              refine MV.iinc (v := 1) dX12_feed_104 rfl (by decide) (by decide) rfl ?_
              refine MV.goto 20 dX12_feed_107 (by decide) ?_
              exact MV.weak [some (.ref a), some (.int x1), some (.int x2), some (.int x3), some (.int x4), some (.int x5), some (.int (nI (i + 1))), none] (by simp [leL, sto1, sto2, k2c, nI_1]) (ih (i + 1) _ (by omega) h1 (by show upd (s2.2.1 1) (t + i) _ = _; rw [h3]; rfl) (fun k hk => (mA_ne hk).trans (h4 k hk)))
            · skip
              have q16 : i < 16 := Nat.not_le.mp fun z => c63 (nI_le (a := 16) z (by omega))
              refine MV.iload dX12_feed_66 rfl ?_
              refine MV.goto 73 dX12_feed_68 (by decide) ?_
              refine MV.istore dX12_feed_73 (by decide) rfl ?_
              refine MV.aload_n dX12_feed_75 rfl ?_
              refine MV.getf 1 fl_X12_7 dX12_feed_76 (by decide) rfl ?_
              refine MV.aload_n dX12_feed_79 rfl ?_
              refine MV.getf 2 fl_X12_151 dX12_feed_80 (by decide) rfl ?_
              refine MV.iload dX12_feed_83 rfl ?_
              refine MV.iadd dX12_feed_85 ?_
              refine MV.iload dX12_feed_86 rfl ?_
              refine MV.bipush (v := 24) dX12_feed_88 (by decide) ?_
              refine MV.bipush (v := 8) dX12_feed_90 (by decide) ?_
              refine MV.iload dX12_feed_92 rfl ?_
              refine MV.iconst (v := 4) dX12_feed_94 (by decide) ?_
              refine MV.irem dX12_feed_95 (by decide) ?_
              refine MV.imul dX12_feed_96 ?_
              refine MV.isub dX12_feed_97 ?_
              refine MV.ishr dX12_feed_98 ?_
              refine MV.sipush (v := 255) dX12_feed_99 (by decide) ?_
              refine MV.iand dX12_feed_102 ?_
              refine MV.eqi (byteF (pickF x1 x2 x3 x4 x5 i) i) (hb _ (by
                unfold pickF
                first
                  | rw [if_pos (by omega)]; done
                  | rw [if_neg (by omega), if_pos (by omega)]; done
                  | rw [if_neg (by omega), if_neg (by omega), if_pos (by omega)]; done
                  | rw [if_neg (by omega), if_neg (by omega), if_neg (by omega), if_pos (by omega)]; done
                  | rw [if_neg (by omega), if_neg (by omega), if_neg (by omega), if_neg (by omega)])) ?_
              refine MV.ast C12_in1 dX12_feed_103 (e3) (by omega) (by decide) ?_
              refine MV.iinc (v := 1) dX12_feed_104 rfl (by decide) (by decide) rfl ?_
              refine MV.goto 20 dX12_feed_107 (by decide) ?_
              exact MV.weak [some (.ref a), some (.int x1), some (.int x2), some (.int x3), some (.int x4), some (.int x5), some (.int (nI (i + 1))), none] (by simp [leL, sto1, sto2, k2c, nI_1]) (ih (i + 1) _ (by omega) h1 (by show upd (s2.2.1 1) (t + i) _ = _; rw [h3]; rfl) (fun k hk => (mA_ne hk).trans (h4 k hk)))
          · skip
            have q12 : i < 12 := Nat.not_le.mp fun z => c52 (nI_le (a := 12) z (by omega))
            refine MV.iload_n dX12_feed_55 rfl ?_
            refine MV.goto 73 dX12_feed_56 (by decide) ?_
            refine MV.istore dX12_feed_73 (by decide) rfl ?_
            refine MV.aload_n dX12_feed_75 rfl ?_
            refine MV.getf 1 fl_X12_7 dX12_feed_76 (by decide) rfl ?_
            refine MV.aload_n dX12_feed_79 rfl ?_
            refine MV.getf 2 fl_X12_151 dX12_feed_80 (by decide) rfl ?_
            refine MV.iload dX12_feed_83 rfl ?_
            refine MV.iadd dX12_feed_85 ?_
            refine MV.iload dX12_feed_86 rfl ?_
            refine MV.bipush (v := 24) dX12_feed_88 (by decide) ?_
            refine MV.bipush (v := 8) dX12_feed_90 (by decide) ?_
            refine MV.iload dX12_feed_92 rfl ?_
            refine MV.iconst (v := 4) dX12_feed_94 (by decide) ?_
            refine MV.irem dX12_feed_95 (by decide) ?_
            refine MV.imul dX12_feed_96 ?_
            refine MV.isub dX12_feed_97 ?_
            refine MV.ishr dX12_feed_98 ?_
            refine MV.sipush (v := 255) dX12_feed_99 (by decide) ?_
            refine MV.iand dX12_feed_102 ?_
            refine MV.eqi (byteF (pickF x1 x2 x3 x4 x5 i) i) (hb _ (by
              unfold pickF
              first
                | rw [if_pos (by omega)]; done
                | rw [if_neg (by omega), if_pos (by omega)]; done
                | rw [if_neg (by omega), if_neg (by omega), if_pos (by omega)]; done
                | rw [if_neg (by omega), if_neg (by omega), if_neg (by omega), if_pos (by omega)]; done
                | rw [if_neg (by omega), if_neg (by omega), if_neg (by omega), if_neg (by omega)])) ?_
            refine MV.ast C12_in1 dX12_feed_103 (e3) (by omega) (by decide) ?_
            refine MV.iinc (v := 1) dX12_feed_104 rfl (by decide) (by decide) rfl ?_
            refine MV.goto 20 dX12_feed_107 (by decide) ?_
            exact MV.weak [some (.ref a), some (.int x1), some (.int x2), some (.int x3), some (.int x4), some (.int x5), some (.int (nI (i + 1))), none] (by simp [leL, sto1, sto2, k2c, nI_1]) (ih (i + 1) _ (by omega) h1 (by show upd (s2.2.1 1) (t + i) _ = _; rw [h3]; rfl) (fun k hk => (mA_ne hk).trans (h4 k hk)))
        · skip
          have q8 : i < 8 := Nat.not_le.mp fun z => c41 (nI_le (a := 8) z (by omega))
          refine MV.iload_n dX12_feed_44 rfl ?_
          refine MV.goto 73 dX12_feed_45 (by decide) ?_
          refine MV.istore dX12_feed_73 (by decide) rfl ?_
          refine MV.aload_n dX12_feed_75 rfl ?_
          refine MV.getf 1 fl_X12_7 dX12_feed_76 (by decide) rfl ?_
          refine MV.aload_n dX12_feed_79 rfl ?_
          refine MV.getf 2 fl_X12_151 dX12_feed_80 (by decide) rfl ?_
          refine MV.iload dX12_feed_83 rfl ?_
          refine MV.iadd dX12_feed_85 ?_
          refine MV.iload dX12_feed_86 rfl ?_
          refine MV.bipush (v := 24) dX12_feed_88 (by decide) ?_
          refine MV.bipush (v := 8) dX12_feed_90 (by decide) ?_
          refine MV.iload dX12_feed_92 rfl ?_
          refine MV.iconst (v := 4) dX12_feed_94 (by decide) ?_
          refine MV.irem dX12_feed_95 (by decide) ?_
          refine MV.imul dX12_feed_96 ?_
          refine MV.isub dX12_feed_97 ?_
          refine MV.ishr dX12_feed_98 ?_
          refine MV.sipush (v := 255) dX12_feed_99 (by decide) ?_
          refine MV.iand dX12_feed_102 ?_
          refine MV.eqi (byteF (pickF x1 x2 x3 x4 x5 i) i) (hb _ (by
            unfold pickF
            first
              | rw [if_pos (by omega)]; done
              | rw [if_neg (by omega), if_pos (by omega)]; done
              | rw [if_neg (by omega), if_neg (by omega), if_pos (by omega)]; done
              | rw [if_neg (by omega), if_neg (by omega), if_neg (by omega), if_pos (by omega)]; done
              | rw [if_neg (by omega), if_neg (by omega), if_neg (by omega), if_neg (by omega)])) ?_
          refine MV.ast C12_in1 dX12_feed_103 (e3) (by omega) (by decide) ?_
          refine MV.iinc (v := 1) dX12_feed_104 rfl (by decide) (by decide) rfl ?_
          refine MV.goto 20 dX12_feed_107 (by decide) ?_
          exact MV.weak [some (.ref a), some (.int x1), some (.int x2), some (.int x3), some (.int x4), some (.int x5), some (.int (nI (i + 1))), none] (by simp [leL, sto1, sto2, k2c, nI_1]) (ih (i + 1) _ (by omega) h1 (by show upd (s2.2.1 1) (t + i) _ = _; rw [h3]; rfl) (fun k hk => (mA_ne hk).trans (h4 k hk)))
      · skip
        have q4 : i < 4 := Nat.not_le.mp fun z => c30 (nI_le (a := 4) z (by omega))
        refine MV.iload_n dX12_feed_33 rfl ?_
        refine MV.goto 73 dX12_feed_34 (by decide) ?_
        refine MV.istore dX12_feed_73 (by decide) rfl ?_
        refine MV.aload_n dX12_feed_75 rfl ?_
        refine MV.getf 1 fl_X12_7 dX12_feed_76 (by decide) rfl ?_
        refine MV.aload_n dX12_feed_79 rfl ?_
        refine MV.getf 2 fl_X12_151 dX12_feed_80 (by decide) rfl ?_
        refine MV.iload dX12_feed_83 rfl ?_
        refine MV.iadd dX12_feed_85 ?_
        refine MV.iload dX12_feed_86 rfl ?_
        refine MV.bipush (v := 24) dX12_feed_88 (by decide) ?_
        refine MV.bipush (v := 8) dX12_feed_90 (by decide) ?_
        refine MV.iload dX12_feed_92 rfl ?_
        refine MV.iconst (v := 4) dX12_feed_94 (by decide) ?_
        refine MV.irem dX12_feed_95 (by decide) ?_
        refine MV.imul dX12_feed_96 ?_
        refine MV.isub dX12_feed_97 ?_
        refine MV.ishr dX12_feed_98 ?_
        refine MV.sipush (v := 255) dX12_feed_99 (by decide) ?_
        refine MV.iand dX12_feed_102 ?_
        refine MV.eqi (byteF (pickF x1 x2 x3 x4 x5 i) i) (hb _ (by
          unfold pickF
          first
            | rw [if_pos (by omega)]; done
            | rw [if_neg (by omega), if_pos (by omega)]; done
            | rw [if_neg (by omega), if_neg (by omega), if_pos (by omega)]; done
            | rw [if_neg (by omega), if_neg (by omega), if_neg (by omega), if_pos (by omega)]; done
            | rw [if_neg (by omega), if_neg (by omega), if_neg (by omega), if_neg (by omega)])) ?_
        refine MV.ast C12_in1 dX12_feed_103 (e3) (by omega) (by decide) ?_
        refine MV.iinc (v := 1) dX12_feed_104 rfl (by decide) (by decide) rfl ?_
        refine MV.goto 20 dX12_feed_107 (by decide) ?_
        exact MV.weak [some (.ref a), some (.int x1), some (.int x2), some (.int x3), some (.int x4), some (.int x5), some (.int (nI (i + 1))), none] (by simp [leL, sto1, sto2, k2c, nI_1]) (ih (i + 1) _ (by omega) h1 (by show upd (s2.2.1 1) (t + i) _ = _; rw [h3]; rfl) (fun k hk => (mA_ne hk).trans (h4 k hk)))
  refine MV.aload_n dX12_feed_0 rfl ?_
  refine MV.iconst (v := 0) dX12_feed_1 (by decide) ?_
  refine MV.putf 0 fl_X12_148 dX12_feed_2 (by decide) rfl (rfl) (rfl) C12_s0 ?_
  refine MV.aload_n dX12_feed_5 rfl ?_
  refine MV.getf 2 fl_X12_151 dX12_feed_6 (by decide) rfl ?_
  refine MV.sipush (v := 680) dX12_feed_9 (by decide) ?_
  refine MV.icmp_le 17 dX12_feed_12 (by decide) (fun c12 => ?_) (fun c12 => ?_)
  · skip
    have h6 : t ≤ 680 := Nat.not_lt.mp fun z => nI_ge (a := 680) (b := t) z (by omega) (by rw [← e2]; exact c12)
    refine MV.iconst (v := 0) dX12_feed_17 (by decide) ?_
    refine MV.istore dX12_feed_18 (by decide) rfl ?_
    exact hL h6 20 0 (mI s 0 0) (by omega) rfl rfl (fun _ _ => rfl)
  · skip
    have h6 : ¬ t ≤ 680 := fun z => c12 (show s.1 2 ≤ 680 by rw [e2]; exact nI_le (b := 680) z (by omega))
    refine MV.iconst (v := (-1)) dX12_feed_15 (by decide) ?_
    refine MV.iret dX12_feed_16 rfl ?_
    rw [if_neg h6, if_neg h6, if_neg h6]
    exact ⟨rfl, e2, rfl, fun j a _ => upd_ne a, fun _ _ => rfl⟩
