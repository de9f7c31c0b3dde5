/-! The model: man, count -/
def aManS (T : Tx) (c : St) (x y : Int32) : Int32 := if aManC T x y = 0 then aManV T c (nat x) y else 0
set_option maxRecDepth 100000 in
set_option maxHeartbeats 2000000 in
theorem man_M {d n0 a : Nat} {κ : Kd} {h0 : Hp} (hd : 4 ≤ d) {T : Tx} {s c : St} (hqu : qui s) (hR : Rm T s 0 c) {x y : Int32} : MV MX12_man (d, 0, 0, n0, κ) a h0 s 0 [some (.ref a), some (.int (x)), some (.int (y)), none] [] (fun v s' => v = some (.int (aManS T c x y)) ∧ s'.1 0 = aManC T x y ∧ frX s s') := by
  refine MV.aload_n dX12_man_0 rfl ?_
  refine MV.aload_n dX12_man_1 rfl ?_
  refine MV.iload_n dX12_man_2 rfl ?_
  refine MV.cV1 yoX12_isMan ml_X12_425 im_X12_isMan se_X12_isMan dX12_man_3 rfl (Nat.le_of_ble_eq_true rfl) (by omega) rfl (Nat.le_of_ble_eq_true rfl) (mIsMan_M (by omega)) (MV.rdK ?_)
  refine MV.if_ne 13 dX12_man_6 (by decide) (fun c6 => ?_) (fun c6 => ?_)
  · skip
    obtain ⟨hman, p, rfl, hp, hp6, hnat⟩ := yesMan hR.1 c6
    obtain ⟨b1, b2, b3, b4⟩ := hR.2.1.r0 hp6
    have b0 : s.2.1 5 p = c.2.1 1 p := by rw [(hR.2.1.2.2.2.2.2.2 p hp).1, hqu.mIn hp6]
    have eL : mLeft s 0 p = cLeft c p := (hR.2.1.left hR.1 hp).1
    have hn0 : s.2.1 3 0 = nI (nat (T.1.1 0)) := by rw [hR.1.1.2.1]; exact hR.1.1.1.1
    have hn6 : nat (T.1.1 0) ≤ 6 := by have := hR.1.1.1.2; rw [hR.1.1.2.1]; omega
    have hl := hR.1.2.2.2.2.1
    have hj := hR.1.2.1.1
    refine MV.iload_n dX12_man_13 rfl ?_
    refine MV.if_lt 23 dX12_man_14 (by decide) (fun c14 => ?_) (fun c14 => ?_)
    · skip
      have hC : aManC T (nI p) y = 2 := by rw [aManC, if_pos hman, if_pos c14]
      refine MV.iconst (v := 2) dX12_man_23 (by decide) ?_
      refine MV.goto 28 dX12_man_24 (by decide) ?_
      refine MV.putf 0 fl_X12_148 dX12_man_28 (by decide) rfl (rfl) (rfl) C12_s0 ?_
      refine MV.aload_n dX12_man_31 rfl ?_
      refine MV.getf 0 fl_X12_148 dX12_man_32 (by decide) rfl ?_
      refine MV.if_eq 40 dX12_man_35 (by decide) (fun z => absurd z (show ¬ (2 : Int32) = 0 by decide)) (fun _ => ?_)
      refine MV.iconst (v := 0) dX12_man_38 (by decide) ?_
      refine MV.iret dX12_man_39 rfl ?_
      exact ⟨by rw [aManS, if_neg (by rw [hC]; decide)], by rw [hC]; rfl, frX.z⟩
    · skip
      refine MV.iload_n dX12_man_17 rfl ?_
      refine MV.bipush (v := 7) dX12_man_18 (by decide) ?_
      refine MV.icmp_le 27 dX12_man_20 (by decide) (fun c20 => ?_) (fun c20 => ?_)
      · skip
        have hC : aManC T (nI p) y = 0 := by rw [aManC, if_pos hman, if_neg c14, if_neg (fun z => absurd c20 (Int32.not_le.mpr z))]
        have hS : aManS T c (nI p) y = aManV T c p y := by rw [aManS, if_pos hC, hnat]
        refine MV.iconst (v := 0) dX12_man_27 (by decide) ?_
        refine MV.putf 0 fl_X12_148 dX12_man_28 (by decide) rfl (rfl) (rfl) C12_s0 ?_
        refine MV.aload_n dX12_man_31 rfl ?_
        refine MV.getf 0 fl_X12_148 dX12_man_32 (by decide) rfl ?_
        refine MV.if_eq 40 dX12_man_35 (by decide) (fun _ => ?_) (fun z => absurd (rfl) z)
        refine MV.aload_n dX12_man_40 rfl ?_
        refine MV.iconst (v := nI 0) dX12_man_41 (by decide) ?_
        refine MV.iload_n dX12_man_42 rfl ?_
        refine MV.cV2 yoX12_leftOf ml_X12_353 im_X12_leftOf se_X12_leftOf dX12_man_43 rfl (Nat.le_of_ble_eq_true rfl) (by omega) rfl (Nat.le_of_ble_eq_true rfl) (mLeft_M (r := 0) (by omega) (by decide) hp6) (MV.rdK ?_)
        refine MV.if_ne 53 dX12_man_46 (by decide) (fun c46 => ?_) (fun c46 => ?_)
        · skip
          have q46 : ¬ cLeft c p = 0 := fun z => c46 (eL.trans z)
          refine MV.iconst (v := 0) dX12_man_53 (by decide) ?_
          refine MV.istore_n dX12_man_54 (by decide) rfl ?_
          refine MV.iload_n dX12_man_55 rfl ?_
          refine MV.tswG [(0, 100), (1, 107), (2, 114), (3, 130), (4, 155), (5, 162), (6, 169)] 188 dX12_man_56 (by decide) (by decide +kernel) (fa_cons (fun cs56 => ?_) (fa_cons (fun cs56 => ?_) (fa_cons (fun cs56 => ?_) (fa_cons (fun cs56 => ?_) (fa_cons (fun cs56 => ?_) (fa_cons (fun cs56 => ?_) (fa_cons (fun cs56 => ?_) fa_nil))))))) (fun co56 => ?_)
          · skip
            have hv : aManV T c p y = T.1.2.1 2 p := by rw [aManV, if_pos cs56]
            refine MV.aload_n dX12_man_100 rfl ?_
            refine MV.getf 5 fl_X12_19 dX12_man_101 (by decide) rfl ?_
            refine MV.iload_n dX12_man_104 rfl ?_
            refine MV.ald C12_in5 dX12_man_105 (rfl) (by omega) (by decide) ?_
            refine MV.iret dX12_man_106 rfl ?_
            exact ⟨by rw [hS, hv]; rw [(hR.1.1.2.2 p (by rw [← hR.1.1.2.1]; exact hp)).2.1]; rfl, by rw [hC]; rfl, frX.z⟩
          · skip
            have hv : aManV T c p y = cLeft c p := by rw [aManV, if_neg (by rw [cs56]; decide), if_pos cs56]
            refine MV.aload_n dX12_man_107 rfl ?_
            refine MV.iconst (v := nI 0) dX12_man_108 (by decide) ?_
            refine MV.iload_n dX12_man_109 rfl ?_
            refine MV.cV2 yoX12_leftOf ml_X12_353 im_X12_leftOf se_X12_leftOf dX12_man_110 rfl (Nat.le_of_ble_eq_true rfl) (by omega) rfl (Nat.le_of_ble_eq_true rfl) (mLeft_M (r := 0) (by omega) (by decide) hp6) (MV.rdK ?_)
            refine MV.iret dX12_man_113 rfl ?_
            exact ⟨by rw [hS, hv]; exact congrArg (fun z => some (Value.int z)) eL, by rw [hC]; rfl, frX.z⟩
          · skip
            have hv : aManV T c p y = (if cLeft c p = 0 then -2 else c.2.1 3 p) := by rw [aManV, if_neg (by rw [cs56]; decide), if_neg (by rw [cs56]; decide), if_pos cs56]
            refine MV.iload_n dX12_man_114 rfl ?_
            refine MV.if_eq 123 dX12_man_115 (by decide) (fun _ => ?_) (fun z => absurd (rfl) z)
            refine MV.aload_n dX12_man_123 rfl ?_
            refine MV.getf 40 fl_X12_87 dX12_man_124 (by decide) rfl ?_
            refine MV.iload_n dX12_man_127 rfl ?_
            refine MV.ald C12_in40 dX12_man_128 (rfl) (by omega) (by decide) ?_
            refine MV.iret dX12_man_129 rfl ?_
            first
            | (refine ⟨?_, by rw [hC]; rfl, frX.z⟩
               rw [hS, hv, if_pos q46]
               done)
            | (refine ⟨?_, by rw [hC]; rfl, frX.z⟩
               rw [hS, hv, if_neg q46, b1]
               rfl)
          · skip
            have hv : aManV T c p y = (if cLeft c p = 0 then -2 else c.2.1 1 p - c.2.1 4 p - 1) := by rw [aManV, if_neg (by rw [cs56]; decide), if_neg (by rw [cs56]; decide), if_neg (by rw [cs56]; decide), if_pos cs56]
            refine MV.iload_n dX12_man_130 rfl ?_
            refine MV.if_eq 139 dX12_man_131 (by decide) (fun _ => ?_) (fun z => absurd (rfl) z)
            refine MV.aload_n dX12_man_139 rfl ?_
            refine MV.getf 5 fl_X12_19 dX12_man_140 (by decide) rfl ?_
            refine MV.iload_n dX12_man_143 rfl ?_
            refine MV.ald C12_in5 dX12_man_144 (rfl) (by omega) (by decide) ?_
            refine MV.aload_n dX12_man_145 rfl ?_
            refine MV.getf 41 fl_X12_90 dX12_man_146 (by decide) rfl ?_
            refine MV.iload_n dX12_man_149 rfl ?_
            refine MV.ald C12_in41 dX12_man_150 (rfl) (by omega) (by decide) ?_
            refine MV.isub dX12_man_151 ?_
            refine MV.iconst (v := 1) dX12_man_152 (by decide) ?_
            refine MV.isub dX12_man_153 ?_
            refine MV.iret dX12_man_154 rfl ?_
            first
            | (refine ⟨?_, by rw [hC]; rfl, frX.z⟩
               rw [hS, hv, if_pos q46]
               done)
            | (refine ⟨?_, by rw [hC]; rfl, frX.z⟩
               rw [hS, hv, if_neg q46, ← b0, b2]
               rfl)
          · skip
            have hv : aManV T c p y = c.2.1 5 p := by rw [aManV, if_neg (by rw [cs56]; decide), if_neg (by rw [cs56]; decide), if_neg (by rw [cs56]; decide), if_neg (by rw [cs56]; decide), if_pos cs56]
            refine MV.aload_n dX12_man_155 rfl ?_
            refine MV.getf 42 fl_X12_93 dX12_man_156 (by decide) rfl ?_
            refine MV.iload_n dX12_man_159 rfl ?_
            refine MV.ald C12_in42 dX12_man_160 (rfl) (by omega) (by decide) ?_
            refine MV.iret dX12_man_161 rfl ?_
            exact ⟨by rw [hS, hv]; rw [b3]; rfl, by rw [hC]; rfl, frX.z⟩
          · skip
            have hv : aManV T c p y = cJunesLeft c p := by rw [aManV, if_neg (by rw [cs56]; decide), if_neg (by rw [cs56]; decide), if_neg (by rw [cs56]; decide), if_neg (by rw [cs56]; decide), if_neg (by rw [cs56]; decide), if_pos cs56]
            refine MV.aload_n dX12_man_162 rfl ?_
            refine MV.iconst (v := nI 0) dX12_man_163 (by decide) ?_
            refine MV.iload_n dX12_man_164 rfl ?_
            refine MV.cV2 yoX12_junesOf ml_X12_359 im_X12_junesOf se_X12_junesOf dX12_man_165 rfl (Nat.le_of_ble_eq_true rfl) (by omega) rfl (Nat.le_of_ble_eq_true rfl) (junesOf_M (r := 0) (by omega) (by decide) hp6 hj.1 (by have := hj.2; omega)) (MV.rdK ?_)
            refine MV.iret dX12_man_168 rfl ?_
            exact ⟨by rw [hS, hv]; exact congrArg (fun z => some (Value.int z)) (hR.2.1.junes hR.1 hR.2.2 hp), by rw [hC]; rfl, frX.z⟩
          · skip
            have hv : aManV T c p y = bI (seesB (litM (c.2.1 5) (nat (T.1.1 0))) (T.1.2.1 4 p) p) := by rw [aManV, if_neg (by rw [cs56]; decide), if_neg (by rw [cs56]; decide), if_neg (by rw [cs56]; decide), if_neg (by rw [cs56]; decide), if_neg (by rw [cs56]; decide), if_neg (by rw [cs56]; decide), if_pos cs56]
            refine MV.aload_n dX12_man_169 rfl ?_
            refine MV.iload_n dX12_man_170 rfl ?_
            refine MV.aload_n dX12_man_171 rfl ?_
            refine MV.iconst (v := nI 0) dX12_man_172 (by decide) ?_
            refine MV.cV1 yoX12_litOnes ml_X12_410 im_X12_litOnes se_X12_litOnes dX12_man_173 rfl (Nat.le_of_ble_eq_true rfl) (by omega) rfl (Nat.le_of_ble_eq_true rfl) (litOnes_M (r := 0) (by omega) (by decide) hn0 hn6) (MV.rdK ?_)
            refine MV.eqi (litM (c.2.1 5) (nat (T.1.1 0))) (litM_congr fun q hq => by rw [show 6 * 0 + q = q by omega]; exact (hR.2.1.r0 (by omega)).2.2.1.symm) ?_
            refine MV.cV2 yoX12_doesSee ml_X12_413 im_X12_doesSee se_X12_doesSee dX12_man_176 rfl (Nat.le_of_ble_eq_true rfl) (by omega) rfl (Nat.le_of_ble_eq_true rfl) (doesSee_M (n := nat (s.2.1 3 4)) (by omega) hl.1.1 (by have := hl.1.2; omega)) (MV.rdK ?_)
            refine MV.if_eq 186 dX12_man_179 (by decide) (fun c179 => ?_) (fun c179 => ?_)
            · skip
              have q179 : seesB (litM (c.2.1 5) (nat (T.1.1 0))) (T.1.2.1 4 p) p = false := by rw [hl.2.2.2 p hp6]; exact bI_f c179
              refine MV.iconst (v := 0) dX12_man_186 (by decide) ?_
              refine MV.iret dX12_man_187 rfl ?_
              refine ⟨?_, by rw [hC]; rfl, frX.z⟩
              rw [hS, hv, q179]
              rfl
            · skip
              have q179 : seesB (litM (c.2.1 5) (nat (T.1.1 0))) (T.1.2.1 4 p) p = true := by rw [hl.2.2.2 p hp6]; exact bI_t c179
              refine MV.iconst (v := 1) dX12_man_182 (by decide) ?_
              refine MV.goto 187 dX12_man_183 (by decide) ?_
              refine MV.iret dX12_man_187 rfl ?_
              refine ⟨?_, by rw [hC]; rfl, frX.z⟩
              rw [hS, hv, q179]
              rfl
          · skip
            have hv : aManV T c p y = c.2.1 6 p := by rw [aManV, if_neg (co56 (0, 100) (by decide)), if_neg (co56 (1, 107) (by decide)), if_neg (co56 (2, 114) (by decide)), if_neg (co56 (3, 130) (by decide)), if_neg (co56 (4, 155) (by decide)), if_neg (co56 (5, 162) (by decide)), if_neg (co56 (6, 169) (by decide))]
            refine MV.aload_n dX12_man_188 rfl ?_
            refine MV.getf 43 fl_X12_96 dX12_man_189 (by decide) rfl ?_
            refine MV.iload_n dX12_man_192 rfl ?_
            refine MV.ald C12_in43 dX12_man_193 (rfl) (by omega) (by decide) ?_
            refine MV.iret dX12_man_194 rfl ?_
            exact ⟨by rw [hS, hv]; rw [b4]; rfl, by rw [hC]; rfl, frX.z⟩
        · skip
          have q46 : cLeft c p = 0 := eL.symm.trans c46
          refine MV.iconst (v := 1) dX12_man_49 (by decide) ?_
          refine MV.goto 54 dX12_man_50 (by decide) ?_
          refine MV.istore_n dX12_man_54 (by decide) rfl ?_
          refine MV.iload_n dX12_man_55 rfl ?_
          refine MV.tswG [(0, 100), (1, 107), (2, 114), (3, 130), (4, 155), (5, 162), (6, 169)] 188 dX12_man_56 (by decide) (by decide +kernel) (fa_cons (fun cs56 => ?_) (fa_cons (fun cs56 => ?_) (fa_cons (fun cs56 => ?_) (fa_cons (fun cs56 => ?_) (fa_cons (fun cs56 => ?_) (fa_cons (fun cs56 => ?_) (fa_cons (fun cs56 => ?_) fa_nil))))))) (fun co56 => ?_)
          · skip
            have hv : aManV T c p y = T.1.2.1 2 p := by rw [aManV, if_pos cs56]
            refine MV.aload_n dX12_man_100 rfl ?_
            refine MV.getf 5 fl_X12_19 dX12_man_101 (by decide) rfl ?_
            refine MV.iload_n dX12_man_104 rfl ?_
            refine MV.ald C12_in5 dX12_man_105 (rfl) (by omega) (by decide) ?_
            refine MV.iret dX12_man_106 rfl ?_
            exact ⟨by rw [hS, hv]; rw [(hR.1.1.2.2 p (by rw [← hR.1.1.2.1]; exact hp)).2.1]; rfl, by rw [hC]; rfl, frX.z⟩
          · skip
            have hv : aManV T c p y = cLeft c p := by rw [aManV, if_neg (by rw [cs56]; decide), if_pos cs56]
            refine MV.aload_n dX12_man_107 rfl ?_
            refine MV.iconst (v := nI 0) dX12_man_108 (by decide) ?_
            refine MV.iload_n dX12_man_109 rfl ?_
            refine MV.cV2 yoX12_leftOf ml_X12_353 im_X12_leftOf se_X12_leftOf dX12_man_110 rfl (Nat.le_of_ble_eq_true rfl) (by omega) rfl (Nat.le_of_ble_eq_true rfl) (mLeft_M (r := 0) (by omega) (by decide) hp6) (MV.rdK ?_)
            refine MV.iret dX12_man_113 rfl ?_
            exact ⟨by rw [hS, hv]; exact congrArg (fun z => some (Value.int z)) eL, by rw [hC]; rfl, frX.z⟩
          · skip
            have hv : aManV T c p y = (if cLeft c p = 0 then -2 else c.2.1 3 p) := by rw [aManV, if_neg (by rw [cs56]; decide), if_neg (by rw [cs56]; decide), if_pos cs56]
            refine MV.iload_n dX12_man_114 rfl ?_
            refine MV.if_eq 123 dX12_man_115 (by decide) (fun z => absurd z (show ¬ (1 : Int32) = 0 by decide)) (fun _ => ?_)
            refine MV.bipush (v := (-2)) dX12_man_118 (by decide) ?_
            refine MV.goto 129 dX12_man_120 (by decide) ?_
            refine MV.iret dX12_man_129 rfl ?_
            first
            | (refine ⟨?_, by rw [hC]; rfl, frX.z⟩
               rw [hS, hv, if_pos q46]
               done)
            | (refine ⟨?_, by rw [hC]; rfl, frX.z⟩
               rw [hS, hv, if_neg q46, b1]
               rfl)
          · skip
            have hv : aManV T c p y = (if cLeft c p = 0 then -2 else c.2.1 1 p - c.2.1 4 p - 1) := by rw [aManV, if_neg (by rw [cs56]; decide), if_neg (by rw [cs56]; decide), if_neg (by rw [cs56]; decide), if_pos cs56]
            refine MV.iload_n dX12_man_130 rfl ?_
            refine MV.if_eq 139 dX12_man_131 (by decide) (fun z => absurd z (show ¬ (1 : Int32) = 0 by decide)) (fun _ => ?_)
            refine MV.bipush (v := (-2)) dX12_man_134 (by decide) ?_
            refine MV.goto 154 dX12_man_136 (by decide) ?_
            refine MV.iret dX12_man_154 rfl ?_
            first
            | (refine ⟨?_, by rw [hC]; rfl, frX.z⟩
               rw [hS, hv, if_pos q46]
               done)
            | (refine ⟨?_, by rw [hC]; rfl, frX.z⟩
               rw [hS, hv, if_neg q46, ← b0, b2]
               rfl)
          · skip
            have hv : aManV T c p y = c.2.1 5 p := by rw [aManV, if_neg (by rw [cs56]; decide), if_neg (by rw [cs56]; decide), if_neg (by rw [cs56]; decide), if_neg (by rw [cs56]; decide), if_pos cs56]
            refine MV.aload_n dX12_man_155 rfl ?_
            refine MV.getf 42 fl_X12_93 dX12_man_156 (by decide) rfl ?_
            refine MV.iload_n dX12_man_159 rfl ?_
            refine MV.ald C12_in42 dX12_man_160 (rfl) (by omega) (by decide) ?_
            refine MV.iret dX12_man_161 rfl ?_
            exact ⟨by rw [hS, hv]; rw [b3]; rfl, by rw [hC]; rfl, frX.z⟩
          · skip
            have hv : aManV T c p y = cJunesLeft c p := by rw [aManV, if_neg (by rw [cs56]; decide), if_neg (by rw [cs56]; decide), if_neg (by rw [cs56]; decide), if_neg (by rw [cs56]; decide), if_neg (by rw [cs56]; decide), if_pos cs56]
            refine MV.aload_n dX12_man_162 rfl ?_
            refine MV.iconst (v := nI 0) dX12_man_163 (by decide) ?_
            refine MV.iload_n dX12_man_164 rfl ?_
            refine MV.cV2 yoX12_junesOf ml_X12_359 im_X12_junesOf se_X12_junesOf dX12_man_165 rfl (Nat.le_of_ble_eq_true rfl) (by omega) rfl (Nat.le_of_ble_eq_true rfl) (junesOf_M (r := 0) (by omega) (by decide) hp6 hj.1 (by have := hj.2; omega)) (MV.rdK ?_)
            refine MV.iret dX12_man_168 rfl ?_
            exact ⟨by rw [hS, hv]; exact congrArg (fun z => some (Value.int z)) (hR.2.1.junes hR.1 hR.2.2 hp), by rw [hC]; rfl, frX.z⟩
          · skip
            have hv : aManV T c p y = bI (seesB (litM (c.2.1 5) (nat (T.1.1 0))) (T.1.2.1 4 p) p) := by rw [aManV, if_neg (by rw [cs56]; decide), if_neg (by rw [cs56]; decide), if_neg (by rw [cs56]; decide), if_neg (by rw [cs56]; decide), if_neg (by rw [cs56]; decide), if_neg (by rw [cs56]; decide), if_pos cs56]
            refine MV.aload_n dX12_man_169 rfl ?_
            refine MV.iload_n dX12_man_170 rfl ?_
            refine MV.aload_n dX12_man_171 rfl ?_
            refine MV.iconst (v := nI 0) dX12_man_172 (by decide) ?_
            refine MV.cV1 yoX12_litOnes ml_X12_410 im_X12_litOnes se_X12_litOnes dX12_man_173 rfl (Nat.le_of_ble_eq_true rfl) (by omega) rfl (Nat.le_of_ble_eq_true rfl) (litOnes_M (r := 0) (by omega) (by decide) hn0 hn6) (MV.rdK ?_)
            refine MV.eqi (litM (c.2.1 5) (nat (T.1.1 0))) (litM_congr fun q hq => by rw [show 6 * 0 + q = q by omega]; exact (hR.2.1.r0 (by omega)).2.2.1.symm) ?_
            refine MV.cV2 yoX12_doesSee ml_X12_413 im_X12_doesSee se_X12_doesSee dX12_man_176 rfl (Nat.le_of_ble_eq_true rfl) (by omega) rfl (Nat.le_of_ble_eq_true rfl) (doesSee_M (n := nat (s.2.1 3 4)) (by omega) hl.1.1 (by have := hl.1.2; omega)) (MV.rdK ?_)
            refine MV.if_eq 186 dX12_man_179 (by decide) (fun c179 => ?_) (fun c179 => ?_)
            · skip
              have q179 : seesB (litM (c.2.1 5) (nat (T.1.1 0))) (T.1.2.1 4 p) p = false := by rw [hl.2.2.2 p hp6]; exact bI_f c179
              refine MV.iconst (v := 0) dX12_man_186 (by decide) ?_
              refine MV.iret dX12_man_187 rfl ?_
              refine ⟨?_, by rw [hC]; rfl, frX.z⟩
              rw [hS, hv, q179]
              rfl
            · skip
              have q179 : seesB (litM (c.2.1 5) (nat (T.1.1 0))) (T.1.2.1 4 p) p = true := by rw [hl.2.2.2 p hp6]; exact bI_t c179
              refine MV.iconst (v := 1) dX12_man_182 (by decide) ?_
              refine MV.goto 187 dX12_man_183 (by decide) ?_
              refine MV.iret dX12_man_187 rfl ?_
              refine ⟨?_, by rw [hC]; rfl, frX.z⟩
              rw [hS, hv, q179]
              rfl
          · skip
            have hv : aManV T c p y = c.2.1 6 p := by rw [aManV, if_neg (co56 (0, 100) (by decide)), if_neg (co56 (1, 107) (by decide)), if_neg (co56 (2, 114) (by decide)), if_neg (co56 (3, 130) (by decide)), if_neg (co56 (4, 155) (by decide)), if_neg (co56 (5, 162) (by decide)), if_neg (co56 (6, 169) (by decide))]
            refine MV.aload_n dX12_man_188 rfl ?_
            refine MV.getf 43 fl_X12_96 dX12_man_189 (by decide) rfl ?_
            refine MV.iload_n dX12_man_192 rfl ?_
            refine MV.ald C12_in43 dX12_man_193 (rfl) (by omega) (by decide) ?_
            refine MV.iret dX12_man_194 rfl ?_
            exact ⟨by rw [hS, hv]; rw [b4]; rfl, by rw [hC]; rfl, frX.z⟩
      · skip
        have h20 : 7 < y := Int32.not_le.mp c20
        have hC : aManC T (nI p) y = 2 := by rw [aManC, if_pos hman, if_neg c14, if_pos h20]
        refine MV.iconst (v := 2) dX12_man_23 (by decide) ?_
        refine MV.goto 28 dX12_man_24 (by decide) ?_
        refine MV.putf 0 fl_X12_148 dX12_man_28 (by decide) rfl (rfl) (rfl) C12_s0 ?_
        refine MV.aload_n dX12_man_31 rfl ?_
        refine MV.getf 0 fl_X12_148 dX12_man_32 (by decide) rfl ?_
        refine MV.if_eq 40 dX12_man_35 (by decide) (fun z => absurd z (show ¬ (2 : Int32) = 0 by decide)) (fun _ => ?_)
        refine MV.iconst (v := 0) dX12_man_38 (by decide) ?_
        refine MV.iret dX12_man_39 rfl ?_
        exact ⟨by rw [aManS, if_neg (by rw [hC]; decide)], by rw [hC]; rfl, frX.z⟩
  · skip
    have hno := noMan hR.1 c6
    have hC : aManC T x y = 1 := by rw [aManC, if_neg hno]
    refine MV.iconst (v := 1) dX12_man_9 (by decide) ?_
    refine MV.goto 28 dX12_man_10 (by decide) ?_
    refine MV.putf 0 fl_X12_148 dX12_man_28 (by decide) rfl (rfl) (rfl) C12_s0 ?_
    refine MV.aload_n dX12_man_31 rfl ?_
    refine MV.getf 0 fl_X12_148 dX12_man_32 (by decide) rfl ?_
    refine MV.if_eq 40 dX12_man_35 (by decide) (fun z => absurd z (show ¬ (1 : Int32) = 0 by decide)) (fun _ => ?_)
    refine MV.iconst (v := 0) dX12_man_38 (by decide) ?_
    refine MV.iret dX12_man_39 rfl ?_
    exact ⟨by rw [aManS, if_neg (by rw [hC]; decide)], by rw [hC]; rfl, frX.z⟩
def sbF (g : Nat → Int32) (b : Bool) : Nat → Int32 := fun p => if b = true then bitsF (g p) 30 else g p
set_option maxRecDepth 100000 in
set_option maxHeartbeats 1000000 in
theorem sumOf_M {d n0 a : Nat} {κ : Kd} {h0 : Hp} (hd : 2 ≤ d) {s : St} {n fk off N : Nat} {b : Bool} (hq : (fk, off, 0, N) ∈ C12.2.2.2) (hN : 6 ≤ N) (hN2 : N < 2147483648) (hn : s.2.1 3 0 = nI n) (hn6 : n ≤ 6) : MV MX12_sumOf (d, 0, 0, n0, κ) a h0 s 0 [some (.ref a), some (.ref (a + off)), some (.int (bI b)), none, none] [] (mR s (.int (sumI (sbF (s.2.1 fk) b) n))) := by
  refine MV.iconst (v := 0) dX12_sumOf_0 (by decide) ?_
  refine MV.istore_n dX12_sumOf_1 (by decide) rfl ?_
  refine MV.iconst (v := nI 0) dX12_sumOf_2 (by decide) ?_
  refine MV.istore dX12_sumOf_3 (by decide) rfl ?_
  suffices hL : ∀ (k i : Nat), i + k = n → MV MX12_sumOf (d, 0, 0, n0, κ) a h0 s 5 [some (.ref a), some (.ref (a + off)), some (.int (bI b)), some (.int (sumI (sbF (s.2.1 fk) b) i)), some (.int (nI i))] [] (mR s (.int (sumI (sbF (s.2.1 fk) b) n))) from hL (n) 0 (by omega)
  intro k
  induction k with
  | zero =>
    intro i hik
    have hin : i = n := by omega
    subst hin
    refine MV.iload dX12_sumOf_5 rfl ?_
    refine MV.aload_n dX12_sumOf_7 rfl ?_
    refine MV.getf 3 fl_X12_13 dX12_sumOf_8 (by decide) rfl ?_
    refine MV.iconst (v := nI 0) dX12_sumOf_11 (by decide) ?_
    refine MV.ald C12_in3 dX12_sumOf_12 (rfl) (by omega) (by decide) ?_
    refine MV.icmp_ge 43 dX12_sumOf_13 (by decide) (fun _ => ?_) (fun z => absurd (by rw [hn]; exact nI_le (Nat.le_refl _) (by omega)) z)
    refine MV.iload_n dX12_sumOf_43 rfl ?_
    refine MV.iret dX12_sumOf_44 rfl ?_
    exact ⟨rfl, rfl⟩
  | succ k ih =>
    intro i hik
    refine MV.iload dX12_sumOf_5 rfl ?_
    refine MV.aload_n dX12_sumOf_7 rfl ?_
    refine MV.getf 3 fl_X12_13 dX12_sumOf_8 (by decide) rfl ?_
    refine MV.iconst (v := nI 0) dX12_sumOf_11 (by decide) ?_
    refine MV.ald C12_in3 dX12_sumOf_12 (rfl) (by omega) (by decide) ?_
    refine MV.icmp_ge 43 dX12_sumOf_13 (by decide) (fun z => absurd z (by rw [hn]; exact nI_ge (by omega) (by omega))) (fun _ => ?_)
    refine MV.iload_n dX12_sumOf_16 rfl ?_
    refine MV.iload_n dX12_sumOf_17 rfl ?_
    refine MV.if_eq 31 dX12_sumOf_18 (by decide) (fun c18 => ?_) (fun c18 => ?_)
    · skip
      have c18 := bI_f c18
      refine MV.aload_n dX12_sumOf_31 rfl ?_
      refine MV.iload dX12_sumOf_32 rfl ?_
      refine MV.ald hq dX12_sumOf_34 (rfl) (by omega) hN2 ?_
      refine MV.iadd dX12_sumOf_35 ?_
      refine MV.istore_n dX12_sumOf_36 (by decide) rfl ?_
      refine MV.iinc (v := 1) dX12_sumOf_37 rfl (by decide) (by decide) rfl ?_
      refine MV.goto 5 dX12_sumOf_40 (by decide) ?_
      refine MV.weak [some (.ref a), some (.ref (a + off)), some (.int (bI b)), some (.int (sumI (sbF (s.2.1 fk) b) (i + 1))), some (.int (nI (i + 1)))] (by simp [leL, sto1, sto2, k2c, nI_1, sumI, sbF, *]) ?_
      exact ih (i + 1) (by omega)
    · skip
      have c18 := bI_t c18
      refine MV.aload_n dX12_sumOf_21 rfl ?_
      refine MV.iload dX12_sumOf_22 rfl ?_
      refine MV.ald hq dX12_sumOf_24 (rfl) (by omega) hN2 ?_
      refine MV.cS1 yoX12_bitsOf ml_X12_356 st_X12_bitsOf dX12_sumOf_25 (Nat.le_of_ble_eq_true rfl) (by omega) rfl (Nat.le_of_ble_eq_true rfl) (fun h H => bitsOf_V (by omega)) ?_
      refine MV.goto 35 dX12_sumOf_28 (by decide) ?_
      refine MV.iadd dX12_sumOf_35 ?_
      refine MV.istore_n dX12_sumOf_36 (by decide) rfl ?_
      refine MV.iinc (v := 1) dX12_sumOf_37 rfl (by decide) (by decide) rfl ?_
      refine MV.goto 5 dX12_sumOf_40 (by decide) ?_
      refine MV.weak [some (.ref a), some (.ref (a + off)), some (.int (bI b)), some (.int (sumI (sbF (s.2.1 fk) b) (i + 1))), some (.int (nI (i + 1)))] (by simp [leL, sto1, sto2, k2c, nI_1, sumI, sbF, *]) ?_
      exact ih (i + 1) (by omega)
theorem lo0 {s : St} {T : Tx} {c : St} (hR : Rm T s 0 c) : s.2.1 3 0 = nI (nat (T.1.1 0)) ∧ nat (T.1.1 0) ≤ 6 := by
  have h1 := hR.1.1.1
  rw [hR.1.1.2.1]
  exact ⟨h1.1, by have := h1.2; omega⟩
set_option maxRecDepth 100000 in
set_option maxHeartbeats 2000000 in
theorem count_M {d n0 a : Nat} {κ : Kd} {h0 : Hp} (hd : 5 ≤ d) {T : Tx} {s c u f : St} {x : Int32} (hR : Rm T s 0 c) (hkn : s.2.1 3 7 = T.2.2.2.1 0) (hf0 : s.1 55 = f.1 0) (hf1 : s.1 56 = f.1 1) (hu : s.1 45 = u.1 0) : MV MX12_count (d, 0, 0, n0, κ) a h0 s 0 [some (.ref a), some (.int (x))] [] (fun v s' => v = some (.int (aCount T c u f x)) ∧ frX s s') := by
  obtain ⟨hn0, n6⟩ := lo0 hR
  refine MV.aload_n dX12_count_0 rfl ?_
  refine MV.iconst (v := 0) dX12_count_1 (by decide) ?_
  refine MV.putf 0 fl_X12_148 dX12_count_2 (by decide) rfl (rfl) (rfl) C12_s0 ?_
  refine MV.iload_n dX12_count_5 rfl ?_
  refine MV.tswG [(0, 80), (1, 87), (2, 94), (3, 101), (4, 108), (5, 116), (6, 123), (7, 129), (8, 135), (9, 145), (10, 152), (11, 159), (12, 169), (13, 174), (14, 179)] 184 dX12_count_6 (by decide) (by decide +kernel) (fa_cons (fun cs6 => ?_) (fa_cons (fun cs6 => ?_) (fa_cons (fun cs6 => ?_) (fa_cons (fun cs6 => ?_) (fa_cons (fun cs6 => ?_) (fa_cons (fun cs6 => ?_) (fa_cons (fun cs6 => ?_) (fa_cons (fun cs6 => ?_) (fa_cons (fun cs6 => ?_) (fa_cons (fun cs6 => ?_) (fa_cons (fun cs6 => ?_) (fa_cons (fun cs6 => ?_) (fa_cons (fun cs6 => ?_) (fa_cons (fun cs6 => ?_) (fa_cons (fun cs6 => ?_) fa_nil))))))))))))))) (fun co6 => ?_)
  · skip
    have hv : aCount T c u f x = T.1.1 0 := by rw [aCount, if_pos cs6]
    refine MV.aload_n dX12_count_80 rfl ?_
    refine MV.getf 3 fl_X12_13 dX12_count_81 (by decide) rfl ?_
    refine MV.iconst (v := nI 0) dX12_count_84 (by decide) ?_
    refine MV.ald C12_in3 dX12_count_85 (rfl) (by omega) (by decide) ?_
    refine MV.iret dX12_count_86 rfl ?_
    exact ⟨by rw [hv]; exact congrArg (fun z => some (Value.int z)) (hR.1.1.2.1.symm), frX.z⟩
  · skip
    have hv : aCount T c u f x = T.1.1 5 := by rw [aCount, if_neg (by rw [cs6]; decide), if_pos cs6]
    refine MV.aload_n dX12_count_87 rfl ?_
    refine MV.getf 3 fl_X12_13 dX12_count_88 (by decide) rfl ?_
    refine MV.iconst (v := nI 1) dX12_count_91 (by decide) ?_
    refine MV.ald C12_in3 dX12_count_92 (rfl) (by omega) (by decide) ?_
    refine MV.iret dX12_count_93 rfl ?_
    exact ⟨by rw [hv]; exact congrArg (fun z => some (Value.int z)) (hR.1.2.1.2.1.symm), frX.z⟩
  · skip
    have hv : aCount T c u f x = T.2.1.1 0 := by rw [aCount, if_neg (by rw [cs6]; decide), if_neg (by rw [cs6]; decide), if_pos cs6]
    refine MV.aload_n dX12_count_94 rfl ?_
    refine MV.getf 3 fl_X12_13 dX12_count_95 (by decide) rfl ?_
    refine MV.iconst (v := nI 2) dX12_count_98 (by decide) ?_
    refine MV.ald C12_in3 dX12_count_99 (rfl) (by omega) (by decide) ?_
    refine MV.iret dX12_count_100 rfl ?_
    exact ⟨by rw [hv]; exact congrArg (fun z => some (Value.int z)) (hR.1.2.2.1.2.1.symm), frX.z⟩
  · skip
    have hv : aCount T c u f x = T.2.2.1.1 0 := by rw [aCount, if_neg (by rw [cs6]; decide), if_neg (by rw [cs6]; decide), if_neg (by rw [cs6]; decide), if_pos cs6]
    refine MV.aload_n dX12_count_101 rfl ?_
    refine MV.getf 3 fl_X12_13 dX12_count_102 (by decide) rfl ?_
    refine MV.iconst (v := nI 3) dX12_count_105 (by decide) ?_
    refine MV.ald C12_in3 dX12_count_106 (rfl) (by omega) (by decide) ?_
    refine MV.iret dX12_count_107 rfl ?_
    exact ⟨by rw [hv]; exact congrArg (fun z => some (Value.int z)) (hR.1.2.2.2.1.2.1.symm), frX.z⟩
  · skip
    have hv : aCount T c u f x = T.2.2.2.1 0 := by rw [aCount, if_neg (by rw [cs6]; decide), if_neg (by rw [cs6]; decide), if_neg (by rw [cs6]; decide), if_neg (by rw [cs6]; decide), if_pos cs6]
    refine MV.aload_n dX12_count_108 rfl ?_
    refine MV.getf 3 fl_X12_13 dX12_count_109 (by decide) rfl ?_
    refine MV.bipush (v := nI 7) dX12_count_112 (by decide) ?_
    refine MV.ald C12_in3 dX12_count_114 (rfl) (by omega) (by decide) ?_
    refine MV.iret dX12_count_115 rfl ?_
    exact ⟨by rw [hv]; exact congrArg (fun z => some (Value.int z)) (hkn), frX.z⟩
  · skip
    have hv : aCount T c u f x = c.1 7 := by rw [aCount, if_neg (by rw [cs6]; decide), if_neg (by rw [cs6]; decide), if_neg (by rw [cs6]; decide), if_neg (by rw [cs6]; decide), if_neg (by rw [cs6]; decide), if_pos cs6]
    refine MV.aload_n dX12_count_116 rfl ?_
    refine MV.getf 36 fl_X12_75 dX12_count_117 (by decide) rfl ?_
    refine MV.iconst (v := nI 0) dX12_count_120 (by decide) ?_
    refine MV.ald C12_in36 dX12_count_121 (rfl) (by omega) (by decide) ?_
    refine MV.iret dX12_count_122 rfl ?_
    exact ⟨by rw [hv]; exact congrArg (fun z => some (Value.int z)) (hR.2.1.2.1.symm), frX.z⟩
  · skip
    have hv : aCount T c u f x = sumI (cLeft c) (nat (T.1.1 0)) := by rw [aCount, if_neg (by rw [cs6]; decide), if_neg (by rw [cs6]; decide), if_neg (by rw [cs6]; decide), if_neg (by rw [cs6]; decide), if_neg (by rw [cs6]; decide), if_neg (by rw [cs6]; decide), if_pos cs6]
    refine MV.aload_n dX12_count_123 rfl ?_
    refine MV.iconst (v := nI 0) dX12_count_124 (by decide) ?_
    refine MV.cV1 yoX12_leftAll ml_X12_526 im_X12_leftAll se_X12_leftAll dX12_count_125 rfl (Nat.le_of_ble_eq_true rfl) (by omega) rfl (Nat.le_of_ble_eq_true rfl) (leftAll_M (r := 0) (by omega) (by decide) hn0 n6) (MV.rdK ?_)
    refine MV.iret dX12_count_128 rfl ?_
    exact ⟨by rw [hv]; exact congrArg (fun z => some (Value.int z)) (sumI_congr _ (fun p hp => (hR.2.1.left hR.1 hp).1)), frX.z⟩
  · skip
    have hv : aCount T c u f x = bcI (outM (cLeft c) (nat (T.1.1 0))) := by rw [aCount, if_neg (by rw [cs6]; decide), if_neg (by rw [cs6]; decide), if_neg (by rw [cs6]; decide), if_neg (by rw [cs6]; decide), if_neg (by rw [cs6]; decide), if_neg (by rw [cs6]; decide), if_neg (by rw [cs6]; decide), if_pos cs6]
    refine MV.aload_n dX12_count_129 rfl ?_
    refine MV.iconst (v := nI 0) dX12_count_130 (by decide) ?_
    refine MV.cV1 yoX12_outAll ml_X12_453 im_X12_outAll se_X12_outAll dX12_count_131 rfl (Nat.le_of_ble_eq_true rfl) (by omega) rfl (Nat.le_of_ble_eq_true rfl) (outAll_M (r := 0) (by omega) (by decide) hn0 n6) (MV.rdK ?_)
    refine MV.iret dX12_count_134 rfl ?_
    exact ⟨by rw [hv]; exact congrArg (fun z => some (Value.int z)) ((cntF0_congr _ (fun p hp => (hR.2.1.left hR.1 hp).1)).trans (out_count n6).symm), frX.z⟩
  · skip
    have hv : aCount T c u f x = sumI (fun p => bcI (c.2.1 5 p)) (nat (T.1.1 0)) := by rw [aCount, if_neg (by rw [cs6]; decide), if_neg (by rw [cs6]; decide), if_neg (by rw [cs6]; decide), if_neg (by rw [cs6]; decide), if_neg (by rw [cs6]; decide), if_neg (by rw [cs6]; decide), if_neg (by rw [cs6]; decide), if_neg (by rw [cs6]; decide), if_pos cs6]
    refine MV.aload_n dX12_count_135 rfl ?_
    refine MV.aload_n dX12_count_136 rfl ?_
    refine MV.getf 42 fl_X12_93 dX12_count_137 (by decide) rfl ?_
    refine MV.iconst (v := (bI true)) dX12_count_140 (by decide) ?_
    refine MV.cV2 yoX12_sumOf ml_X12_529 im_X12_sumOf se_X12_sumOf dX12_count_141 rfl (Nat.le_of_ble_eq_true rfl) (by omega) rfl (Nat.le_of_ble_eq_true rfl) (sumOf_M (b := true) (by omega) C12_in42 (by decide) (by decide) hn0 n6) (MV.rdK ?_)
    refine MV.iret dX12_count_144 rfl ?_
    exact ⟨by rw [hv]; exact congrArg (fun z => some (Value.int z)) (sumI_congr _ (fun p hp => by show bitsF (s.2.1 42 p) 30 = _; rw [← (hR.2.1.r0 (by omega)).2.2.1]; exact bits4 (hR.2.2.litok hp))), frX.z⟩
  · skip
    have hv : aCount T c u f x = c.1 8 := by rw [aCount, if_neg (by rw [cs6]; decide), if_neg (by rw [cs6]; decide), if_neg (by rw [cs6]; decide), if_neg (by rw [cs6]; decide), if_neg (by rw [cs6]; decide), if_neg (by rw [cs6]; decide), if_neg (by rw [cs6]; decide), if_neg (by rw [cs6]; decide), if_neg (by rw [cs6]; decide), if_pos cs6]
    refine MV.aload_n dX12_count_145 rfl ?_
    refine MV.getf 38 fl_X12_81 dX12_count_146 (by decide) rfl ?_
    refine MV.iconst (v := nI 0) dX12_count_149 (by decide) ?_
    refine MV.ald C12_in38 dX12_count_150 (rfl) (by omega) (by decide) ?_
    refine MV.iret dX12_count_151 rfl ?_
    exact ⟨by rw [hv]; exact congrArg (fun z => some (Value.int z)) (hR.2.1.2.2.2.1.symm), frX.z⟩
  · skip
    have hv : aCount T c u f x = c.1 9 := by rw [aCount, if_neg (by rw [cs6]; decide), if_neg (by rw [cs6]; decide), if_neg (by rw [cs6]; decide), if_neg (by rw [cs6]; decide), if_neg (by rw [cs6]; decide), if_neg (by rw [cs6]; decide), if_neg (by rw [cs6]; decide), if_neg (by rw [cs6]; decide), if_neg (by rw [cs6]; decide), if_neg (by rw [cs6]; decide), if_pos cs6]
    refine MV.aload_n dX12_count_152 rfl ?_
    refine MV.getf 39 fl_X12_84 dX12_count_153 (by decide) rfl ?_
    refine MV.iconst (v := nI 0) dX12_count_156 (by decide) ?_
    refine MV.ald C12_in39 dX12_count_157 (rfl) (by omega) (by decide) ?_
    refine MV.iret dX12_count_158 rfl ?_
    exact ⟨by rw [hv]; exact congrArg (fun z => some (Value.int z)) (hR.2.1.2.2.2.2.1.symm), frX.z⟩
  · skip
    have hv : aCount T c u f x = sumI (c.2.1 6) (nat (T.1.1 0)) := by rw [aCount, if_neg (by rw [cs6]; decide), if_neg (by rw [cs6]; decide), if_neg (by rw [cs6]; decide), if_neg (by rw [cs6]; decide), if_neg (by rw [cs6]; decide), if_neg (by rw [cs6]; decide), if_neg (by rw [cs6]; decide), if_neg (by rw [cs6]; decide), if_neg (by rw [cs6]; decide), if_neg (by rw [cs6]; decide), if_neg (by rw [cs6]; decide), if_pos cs6]
    refine MV.aload_n dX12_count_159 rfl ?_
    refine MV.aload_n dX12_count_160 rfl ?_
    refine MV.getf 43 fl_X12_96 dX12_count_161 (by decide) rfl ?_
    refine MV.iconst (v := (bI false)) dX12_count_164 (by decide) ?_
    refine MV.cV2 yoX12_sumOf ml_X12_529 im_X12_sumOf se_X12_sumOf dX12_count_165 rfl (Nat.le_of_ble_eq_true rfl) (by omega) rfl (Nat.le_of_ble_eq_true rfl) (sumOf_M (b := false) (by omega) C12_in43 (by decide) (by decide) hn0 n6) (MV.rdK ?_)
    refine MV.iret dX12_count_168 rfl ?_
    exact ⟨by rw [hv]; exact congrArg (fun z => some (Value.int z)) (sumI_congr _ (fun p hp => (hR.2.1.r0 (by omega)).2.2.2.symm)), frX.z⟩
  · skip
    have hv : aCount T c u f x = f.1 0 := by rw [aCount, if_neg (by rw [cs6]; decide), if_neg (by rw [cs6]; decide), if_neg (by rw [cs6]; decide), if_neg (by rw [cs6]; decide), if_neg (by rw [cs6]; decide), if_neg (by rw [cs6]; decide), if_neg (by rw [cs6]; decide), if_neg (by rw [cs6]; decide), if_neg (by rw [cs6]; decide), if_neg (by rw [cs6]; decide), if_neg (by rw [cs6]; decide), if_neg (by rw [cs6]; decide), if_pos cs6]
    refine MV.aload_n dX12_count_169 rfl ?_
    refine MV.getf 55 fl_X12_307 dX12_count_170 (by decide) rfl ?_
    refine MV.iret dX12_count_173 rfl ?_
    exact ⟨by rw [hv]; exact congrArg (fun z => some (Value.int z)) (hf0), frX.z⟩
  · skip
    have hv : aCount T c u f x = fBy f := by rw [aCount, if_neg (by rw [cs6]; decide), if_neg (by rw [cs6]; decide), if_neg (by rw [cs6]; decide), if_neg (by rw [cs6]; decide), if_neg (by rw [cs6]; decide), if_neg (by rw [cs6]; decide), if_neg (by rw [cs6]; decide), if_neg (by rw [cs6]; decide), if_neg (by rw [cs6]; decide), if_neg (by rw [cs6]; decide), if_neg (by rw [cs6]; decide), if_neg (by rw [cs6]; decide), if_neg (by rw [cs6]; decide), if_pos cs6]
    refine MV.aload_n dX12_count_174 rfl ?_
    refine MV.cV0 yoX12_knownMany ml_X12_511 im_X12_knownMany se_X12_knownMany dX12_count_175 rfl (Nat.le_of_ble_eq_true rfl) (by omega) rfl (Nat.le_of_ble_eq_true rfl) (knownMany_M (by omega)) (MV.rdK ?_)
    refine MV.iret dX12_count_178 rfl ?_
    exact ⟨by rw [hv]; exact congrArg (fun z => some (Value.int z)) (by unfold fBy; rw [← hf1, ← hf0]; rfl), frX.z⟩
  · skip
    have hv : aCount T c u f x = u.1 0 := by rw [aCount, if_neg (by rw [cs6]; decide), if_neg (by rw [cs6]; decide), if_neg (by rw [cs6]; decide), if_neg (by rw [cs6]; decide), if_neg (by rw [cs6]; decide), if_neg (by rw [cs6]; decide), if_neg (by rw [cs6]; decide), if_neg (by rw [cs6]; decide), if_neg (by rw [cs6]; decide), if_neg (by rw [cs6]; decide), if_neg (by rw [cs6]; decide), if_neg (by rw [cs6]; decide), if_neg (by rw [cs6]; decide), if_neg (by rw [cs6]; decide), if_pos cs6]
    refine MV.aload_n dX12_count_179 rfl ?_
    refine MV.getf 45 fl_X12_314 dX12_count_180 (by decide) rfl ?_
    refine MV.iret dX12_count_183 rfl ?_
    exact ⟨by rw [hv]; exact congrArg (fun z => some (Value.int z)) (hu), frX.z⟩
  · skip
    have hv : aCount T c u f x = -1 := by rw [aCount, if_neg (co6 (0, 80) (by decide)), if_neg (co6 (1, 87) (by decide)), if_neg (co6 (2, 94) (by decide)), if_neg (co6 (3, 101) (by decide)), if_neg (co6 (4, 108) (by decide)), if_neg (co6 (5, 116) (by decide)), if_neg (co6 (6, 123) (by decide)), if_neg (co6 (7, 129) (by decide)), if_neg (co6 (8, 135) (by decide)), if_neg (co6 (9, 145) (by decide)), if_neg (co6 (10, 152) (by decide)), if_neg (co6 (11, 159) (by decide)), if_neg (co6 (12, 169) (by decide)), if_neg (co6 (13, 174) (by decide)), if_neg (co6 (14, 179) (by decide))]
    refine MV.iconst (v := (-1)) dX12_count_184 (by decide) ?_
    refine MV.iret dX12_count_185 rfl ?_
    exact ⟨by rw [hv], frX.z⟩
