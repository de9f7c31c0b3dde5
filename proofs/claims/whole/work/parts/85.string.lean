/-! The model text: String.charAt and length of the words -/
def chM (i : Nat) : Int32 := (roByt.getD 2 []).getD i 0
theorem V.ldcM {Y : Yd} {Z : Zd} {ca sl : Nat} {h : Hp} {pc : Nat} {L : List (Option Value)} {rest : List Value} {P : Option Value → Hp → Prop} (hcl : Y.1.cls = "BurntEndsModel") (hdg : decode Y.2.1 pc = .ok (.ldc 191, 2)) (k : V Y Z ca sl h (pc + 2) L (.ref Z.2.2.2.2.2.1 :: rest) P) : V Y Z ca sl h pc L rest P := by
  intro p l e s m args below meth c G aC A H locs ls hF hK hRO hA hn hR hz hS hL
  obtain ⟨-, -, adK, adV, hE, r0, r1, r2, e1, e2⟩ := id hRO
  exact va_ldcS (own := "BurntEndsModel") (tx := strM) hF.1 hF.2.1 (by rw [← hcl]; exact hF.2.2.2.1) (by rw [← e1]; exact r2) hdg (k p l e s m args below meth c G aC A H locs ls hF hK hRO hA hn hR hz hS hL)
theorem V.getVal {Y : Yd} {Z : Zd} {ca sl : Nat} {h : Hp} {pc : Nat} {L : List (Option Value)} {rest : List Value} {P : Option Value → Hp → Prop} {idx : Nat} (hlk : Cond.fieldLink Y.1.cls idx "java/lang/String" "value" "[B" ∈ BG) (hdg : decode Y.2.1 pc = .ok (.getfield idx, 3)) (k : V Y Z ca sl h (pc + 3) L (.ref Z.2.2.2.2.2.2 :: rest) P) : V Y Z ca sl h pc L (.ref Z.2.2.2.2.2.1 :: rest) P := by
  intro p l e s m args below meth c G aC A H locs ls hF hK hRO hA hn hR hz hS hL
  obtain ⟨-, -, adK, adV, hE, r0, r1, r2, e1, e2⟩ := id hRO
  have hv := (hE.1 2 (by decide)).2.2.1
  rw [e1, e2] at hv
  exact vk_getf hF.1 hF.2.1 hv hS hF.2.2.2.1 (hF.2.2.2.2.1 _ hlk) (fun x hx => hx) hdg (k p l e s m args below meth c G aC A H locs ls hF hK hRO hA hn hR hz hS hL)
theorem V.getCod {Y : Yd} {Z : Zd} {ca sl : Nat} {h : Hp} {pc : Nat} {L : List (Option Value)} {rest : List Value} {P : Option Value → Hp → Prop} {idx : Nat} (hlk : Cond.fieldLink Y.1.cls idx "java/lang/String" "coder" "B" ∈ BG) (hdg : decode Y.2.1 pc = .ok (.getfield idx, 3)) (k : V Y Z ca sl h (pc + 3) L (.int 0 :: rest) P) : V Y Z ca sl h pc L (.ref Z.2.2.2.2.2.1 :: rest) P := by
  intro p l e s m args below meth c G aC A H locs ls hF hK hRO hA hn hR hz hS hL
  obtain ⟨-, -, adK, adV, hE, r0, r1, r2, e1, e2⟩ := id hRO
  have hv := (hE.1 2 (by decide)).2.1
  rw [e1] at hv
  exact vk_getf hF.1 hF.2.1 hv hS hF.2.2.2.1 (hF.2.2.2.2.1 _ hlk) (fun x hx => hx) hdg (k p l e s m args below meth c G aC A H locs ls hF hK hRO hA hn hR hz hS hL)
theorem V.getCS {Y : Yd} {Z : Zd} {ca sl : Nat} {h : Hp} {pc : Nat} {L : List (Option Value)} {rest : List Value} {P : Option Value → Hp → Prop} {idx : Nat} (hlk : Cond.fieldLink Y.1.cls idx "java/lang/String" "COMPACT_STRINGS" "Z" ∈ BG) (hdg : decode Y.2.1 pc = .ok (.getstatic idx, 3)) (k : V Y Z ca sl h (pc + 3) L (.int 1 :: rest) P) : V Y Z ca sl h pc L rest P := by
  intro p l e s m args below meth c G aC A H locs ls hF hK hRO hA hn hR hz hS hL
  exact va_gets hF.1 hF.2.1 hRO.2.1.1 hS hF.2.2.2.1 (hF.2.2.2.2.1 _ hlk) (fun x hx => hx) hdg (k p l e s m args below meth c G aC A H locs ls hF hK hRO hA hn hR hz hS hL)
theorem V.getFm {Y : Yd} {Z : Zd} {ca sl : Nat} {h : Hp} {pc : Nat} {L : List (Option Value)} {rest : List Value} {P : Option Value → Hp → Prop} {idx : Nat} (hlk : Cond.fieldLink Y.1.cls idx "jdk/internal/util/Preconditions" "SIOOBE_FORMATTER" "Ljava/util/function/BiFunction;" ∈ BG) (hdg : decode Y.2.1 pc = .ok (.getstatic idx, 3)) (k0 : V Y Z ca sl h (pc + 3) L (.null :: rest) P) (k : ∀ t : Nat, V Y Z ca sl h (pc + 3) L (.ref t :: rest) P) : V Y Z ca sl h pc L rest P := by
  intro p l e s m args below meth c G aC A H locs ls hF hK hRO hA hn hR hz hS hL
  rcases hRO.2.1.2 with hz1 | ⟨t, hz1⟩
  · exact va_gets hF.1 hF.2.1 hz1 hS hF.2.2.2.1 (hF.2.2.2.2.1 _ hlk) (fun x hx => hx) hdg (k0 p l e s m args below meth c G aC A H locs ls hF hK hRO hA hn hR hz hS hL)
  · exact va_gets hF.1 hF.2.1 hz1 hS hF.2.2.2.1 (hF.2.2.2.2.1 _ hlk) (fun x hx => hx) hdg (k t p l e s m args below meth c G aC A H locs ls hF hK hRO hA hn hR hz hS hL)
theorem V.lenS {Y : Yd} {Z : Zd} {ca sl : Nat} {h : Hp} {pc : Nat} {L : List (Option Value)} {rest : List Value} {P : Option Value → Hp → Prop} (hdg : decode Y.2.1 pc = .ok (.arraylength, 1)) (k : V Y Z ca sl h (pc + 1) L (.int 102 :: rest) P) : V Y Z ca sl h pc L (.ref Z.2.2.2.2.2.2 :: rest) P := by
  intro p l e s m args below meth c G aC A H locs ls hF hK hRO hA hn hR hz hS hL
  obtain ⟨-, -, adK, adV, hE, r0, r1, r2, e1, e2⟩ := id hRO
  have hv := (hE.1 2 (by decide)).2.2.2
  rw [e2] at hv
  exact va_tlen hF.1 hF.2.1 hv hS rfl hdg (k p l e s m args below meth c G aC A H locs ls hF hK hRO hA hn hR hz hS hL)
theorem V.atS {Y : Yd} {Z : Zd} {ca sl : Nat} {h : Hp} {pc : Nat} {L : List (Option Value)} {rest : List Value} {P : Option Value → Hp → Prop} {i : Nat} (hi : i < 102) (hdg : decode Y.2.1 pc = .ok (.baload, 1)) (k : V Y Z ca sl h (pc + 1) L (.int (chM i) :: rest) P) : V Y Z ca sl h pc L (.int (nI i) :: .ref Z.2.2.2.2.2.2 :: rest) P := by
  intro p l e s m args below meth c G aC A H locs ls hF hK hRO hA hn hR hz hS hL
  obtain ⟨-, -, adK, adV, hE, r0, r1, r2, e1, e2⟩ := id hRO
  have hv := (hE.1 2 (by decide)).2.2.2
  rw [e2] at hv
  exact va_tb hF.1 hF.2.1 hv hS (vp_in_nI hi (by decide)) (show Value.int ((roByt.getD 2 []).getD (nI i).toNatClampNeg 0) = .int (chM i) by rw [nI_clamp (by omega)]; rfl) hdg (k p l e s m args below meth c G aC A H locs ls hF hK hRO hA hn hR hz hS hL)
/-- a call of a method of the words -/
theorem V.callVS {Y Yc : Yd} {d mc ms n0 ca sl d' mc' ms' n : Nat} {κ : Kd} {h : Hp} {pc : Nat} {L : List (Option Value)} {st rest As : List Value} {P P1 : Option Value → Hp → Prop} {idx : Nat} {Lc : List (Option Value)} (hcl : Yc.1.cls = "java/lang/String") (hok : Yok Yc n) (hlk : Cond.methodLink Y.1.cls idx Yc.1 ∈ BG) (hin : Cond.instanceMethod Yc.1 ∈ BG) (hse : Cond.selects Yc.1.cls Yc.1 Yc.1 ∈ BG) (hdg : decode Y.2.1 pc = .ok (.invokevirtual idx, 3))
    (hst : st = As.reverse ++ .ref κ.2.1 :: rest) (hn : As.length = n) (hrm : (rest.map fun v => v.category).sum ≤ 8) (hd : d' + 1 ≤ d) (hm : ca + mc' ≤ mc ∧ sl + ms' ≤ ms)
    (hLc : padL Yc.2.2.1 (entA (.ref κ.2.1 :: As)) = Lc) (hle : (lg_sl (.ref κ.2.1 :: As)).length ≤ Yc.2.2.1)
    (hV : V Yc (d', mc', ms', n0 + ca, κ) 0 0 h 0 Lc [] P1)
    (kk : ∀ (v : Option Value) (h' : Hp), P1 v h' → V Y (d, mc, ms, n0, κ) (ca + mc') (sl + ms') h' (pc + 3) L (v.toList ++ rest) P) : V Y (d, mc, ms, n0, κ) ca sl h pc L st P := by
  subst hst
  subst hLc
  intro p l e s m args below meth c G aC A H locs ls hF hK hRO hA hsz hR hz hS hL
  obtain ⟨ws, hP, hD, hC⟩ := hR
  obtain ⟨-, -, adK, adV, hE, r0, r1, r2, e1, e2⟩ := id hRO
  have hrc := vk_recv hE (i := 2) (by decide) hS
  rw [e1, ← hcl] at hrc
  obtain ⟨f1, f2, f3, f4, f5, f6, f7, f8, f9⟩ := id hF
  have hpr := V.pre (As := .ref κ.2.1 :: As) f9 hK hRO hA hsz hP hD hz hS
  exact V.after kk hF hK hRO hA hsz hD hz hS hL (va_runV (Ts := BG) ⟨f1, f2, f3, f4, f5⟩ (V.met hok hle hV l G aC ws hC)
    ⟨callB_of (ws' := BG) n f5 (wsY_good hok) rfl rfl rfl (f5 _ hok.2.2.2.2.2) (f5 _ hlk) ⟨hok.2.1.1, hok.2.1.2, hok.2.2.1⟩ (vrm hd hok.2.2.2.1), f5 _ hin, f5 _ hse⟩
    ⟨hpr.1, hrc, hpr.2⟩ rfl hn (lh_size hL) rfl (lv_room hrm) hdg hm)
set_option maxRecDepth 100000 in
theorem isLatin1_V {d n0 : Nat} {κ : Kd} (hd : 0 ≤ d) {h : Hp}  : V MJ0_isLatin1_aae02 (d, 0, 0, n0, κ) 0 0 h 0 [some (.ref κ.2.1)] [] (Rd h (.int 1)) := by
  refine V.getCS fl_J0_38 dJ0_isLatin1_aae02_0 ?_
  refine V.if_eq 17 dJ0_isLatin1_aae02_3 (by decide) (fun z => absurd z (by decide)) (fun _ => ?_)
  refine V.aload_n dJ0_isLatin1_aae02_6 rfl ?_
  refine V.getCod fl_J0_15 dJ0_isLatin1_aae02_7 ?_
  refine V.if_ne 17 dJ0_isLatin1_aae02_10 (by decide) (fun z => absurd rfl z) (fun _ => ?_)
  refine V.iconst (v := 1) dJ0_isLatin1_aae02_13 (by decide) ?_
  refine V.goto 18 dJ0_isLatin1_aae02_14 (by decide) ?_
  refine V.zret .boolean dJ0_isLatin1_aae02_18 rfl (by decide) ?_
  exact ⟨rfl, rfl⟩
set_option maxRecDepth 100000 in
theorem coder_V {d n0 : Nat} {κ : Kd} (hd : 0 ≤ d) {h : Hp}  : V MJ0_coder_7d493 (d, 0, 0, n0, κ) 0 0 h 0 [some (.ref κ.2.1)] [] (Rd h (.int 0)) := by
  refine V.getCS fl_J0_38 dJ0_coder_7d493_0 ?_
  refine V.if_eq 13 dJ0_coder_7d493_3 (by decide) (fun z => absurd z (by decide)) (fun _ => ?_)
  refine V.aload_n dJ0_coder_7d493_6 rfl ?_
  refine V.getCod fl_J0_15 dJ0_coder_7d493_7 ?_
  refine V.goto 14 dJ0_coder_7d493_10 (by decide) ?_
  refine V.zret .byte dJ0_coder_7d493_14 rfl (by decide) ?_
  exact ⟨rfl, rfl⟩
set_option maxRecDepth 100000 in
theorem length_V {d n0 : Nat} {κ : Kd} (hd : 1 ≤ d) {h : Hp}  : V MJ0_length_8abf5 (d, 0, 0, n0, κ) 0 0 h 0 [some (.ref κ.2.1)] [] (Rd h (.int 102)) := by
  refine V.aload_n dJ0_length_8abf5_0 rfl ?_
  refine V.getVal fl_J0_9 dJ0_length_8abf5_1 ?_
  refine V.lenS dJ0_length_8abf5_4 ?_
  refine V.aload_n dJ0_length_8abf5_5 rfl ?_
  refine V.callVS (As := []) (d' := d - 1) (mc' := 0) (ms' := 0) rfl yoJ0_coder_7d493 ml_J0_335 im_J0_coder_7d493 se_J0_coder_7d493 dJ0_length_8abf5_6 rfl rfl (Nat.le_of_ble_eq_true rfl) (by omega) ⟨Nat.le_refl _, Nat.le_refl _⟩ rfl (Nat.le_of_ble_eq_true rfl) (coder_V (Nat.zero_le _)) ?_
  rintro _ _ ⟨rfl, rfl⟩
  refine V.ishr dJ0_length_8abf5_9 ?_
  refine V.iret dJ0_length_8abf5_10 rfl ?_
  exact ⟨by decide, rfl⟩
set_option maxRecDepth 100000 in
theorem checkJ3_V {d n0 : Nat} {κ : Kd} (hd : 0 ≤ d) {h : Hp} {i n : Nat} (hi : i < n) (hn : n < 2 ^ 31) {x : Option Value} : V MJ3_checkIndex_8e157 (d, 0, 0, n0, κ) 0 0 h 0 [some (.int (nI i)), some (.int (nI n)), x] [] (Rd h (.int (nI i))) := by
  refine V.iload_n dJ3_checkIndex_8e157_0 rfl ?_
  refine V.if_lt 9 dJ3_checkIndex_8e157_1 (by decide) (fun z => absurd z (nI_nlt0 i)) (fun _ => ?_)
  refine V.iload_n dJ3_checkIndex_8e157_4 rfl ?_
  refine V.iload_n dJ3_checkIndex_8e157_5 rfl ?_
  refine V.icmp_lt 16 dJ3_checkIndex_8e157_6 (by decide) (fun _ => ?_) (fun z => absurd (nI_lt hi hn) z)
  refine V.iload_n dJ3_checkIndex_8e157_16 rfl ?_
  refine V.iret dJ3_checkIndex_8e157_17 rfl ?_
  exact ⟨rfl, rfl⟩
set_option maxRecDepth 100000 in
theorem checkJ0_V {d n0 : Nat} {κ : Kd} (hd : 1 ≤ d) {h : Hp} {i n : Nat} (hi : i < n) (hn : n < 2 ^ 31) : V MJ0_checkIndex_df160 (d, 0, 0, n0, κ) 0 0 h 0 [some (.int (nI i)), some (.int (nI n))] [] (fun v h' => v = none ∧ h' = h) := by
  refine V.iload_n dJ0_checkIndex_df160_0 rfl ?_
  refine V.iload_n dJ0_checkIndex_df160_1 rfl ?_
  refine V.getFm fl_J0_1053 dJ0_checkIndex_df160_2 ?_ (fun t => ?_)
  · skip
    refine V.cS3 (mc' := 0) (ms' := 0) yoJ3_checkIndex_8e157 ml_J0_1059 st_J3_checkIndex_8e157 dJ0_checkIndex_df160_5 (Nat.le_of_ble_eq_true rfl) (by omega) ⟨Nat.le_refl _, Nat.le_refl _⟩ rfl (Nat.le_of_ble_eq_true rfl) (checkJ3_V (Nat.zero_le _) hi hn) ?_
    rintro _ _ ⟨rfl, rfl⟩
    refine V.pop dJ0_checkIndex_df160_8 rfl ?_
    refine V.vret dJ0_checkIndex_df160_9 rfl ?_
    exact ⟨rfl, rfl⟩
  · skip
    refine V.cS3 (mc' := 0) (ms' := 0) yoJ3_checkIndex_8e157 ml_J0_1059 st_J3_checkIndex_8e157 dJ0_checkIndex_df160_5 (Nat.le_of_ble_eq_true rfl) (by omega) ⟨Nat.le_refl _, Nat.le_refl _⟩ rfl (Nat.le_of_ble_eq_true rfl) (checkJ3_V (Nat.zero_le _) hi hn) ?_
    rintro _ _ ⟨rfl, rfl⟩
    refine V.pop dJ0_checkIndex_df160_8 rfl ?_
    refine V.vret dJ0_checkIndex_df160_9 rfl ?_
    exact ⟨rfl, rfl⟩
theorem chM_c : ∀ i, i < 102 → ((chM i &&& 255).toUInt32 % 65536).toInt32 = chM i ∧ narrow .char (.int (chM i)) = .int (chM i) := by decide +kernel
set_option maxRecDepth 100000 in
theorem charJ1_V {d n0 : Nat} {κ : Kd} (hd : 2 ≤ d) {h : Hp} {i : Nat} (hi : i < 102) : V MJ1_charAt_3b067 (d, 0, 0, n0, κ) 0 0 h 0 [some (.ref κ.2.2), some (.int (nI i))] [] (Rd h (.int (chM i))) := by
  refine V.iload_n dJ1_charAt_3b067_0 rfl ?_
  refine V.aload_n dJ1_charAt_3b067_1 rfl ?_
  refine V.lenS dJ1_charAt_3b067_2 ?_
  refine V.cS2 (mc' := 0) (ms' := 0) yoJ0_checkIndex_df160 ml_J1_9 st_J0_checkIndex_df160 dJ1_charAt_3b067_3 (Nat.le_of_ble_eq_true rfl) (by omega) ⟨Nat.le_refl _, Nat.le_refl _⟩ rfl (Nat.le_of_ble_eq_true rfl) (checkJ0_V (n := 102) (by omega) hi (by decide)) ?_
  rintro _ _ ⟨rfl, rfl⟩
  refine V.aload_n dJ1_charAt_3b067_6 rfl ?_
  refine V.iload_n dJ1_charAt_3b067_7 rfl ?_
  refine V.atS hi dJ1_charAt_3b067_8 ?_
  refine V.sipush (v := 255) dJ1_charAt_3b067_9 (by decide) ?_
  refine V.iand dJ1_charAt_3b067_12 ?_
  refine V.i2c dJ1_charAt_3b067_13 ?_
  rw [(chM_c i hi).1]
  refine V.zret .char dJ1_charAt_3b067_14 rfl (chM_c i hi).2 ?_
  exact ⟨rfl, rfl⟩
set_option maxRecDepth 100000 in
theorem charAt_V {d n0 : Nat} {κ : Kd} (hd : 3 ≤ d) {h : Hp} {i : Nat} (hi : i < 102) : V MJ0_charAt_5068e (d, 0, 0, n0, κ) 0 0 h 0 [some (.ref κ.2.1), some (.int (nI i))] [] (Rd h (.int (chM i))) := by
  refine V.aload_n dJ0_charAt_5068e_0 rfl ?_
  refine V.callVS (As := []) (d' := d - 1) (mc' := 0) (ms' := 0) rfl yoJ0_isLatin1_aae02 ml_J0_492 im_J0_isLatin1_aae02 se_J0_isLatin1_aae02 dJ0_charAt_5068e_1 rfl rfl (Nat.le_of_ble_eq_true rfl) (by omega) ⟨Nat.le_refl _, Nat.le_refl _⟩ rfl (Nat.le_of_ble_eq_true rfl) (isLatin1_V (Nat.zero_le _)) ?_
  rintro _ _ ⟨rfl, rfl⟩
  refine V.if_eq 16 dJ0_charAt_5068e_4 (by decide) (fun z => absurd z (by decide)) (fun _ => ?_)
  refine V.aload_n dJ0_charAt_5068e_7 rfl ?_
  refine V.getVal fl_J0_9 dJ0_charAt_5068e_8 ?_
  refine V.iload_n dJ0_charAt_5068e_11 rfl ?_
  refine V.cS2 (mc' := 0) (ms' := 0) yoJ1_charAt_3b067 ml_J0_495 st_J1_charAt_3b067 dJ0_charAt_5068e_12 (Nat.le_of_ble_eq_true rfl) (by omega) ⟨Nat.le_refl _, Nat.le_refl _⟩ rfl (Nat.le_of_ble_eq_true rfl) (charJ1_V (by omega) hi) ?_
  rintro _ _ ⟨rfl, rfl⟩
  refine V.zret .char dJ0_charAt_5068e_15 rfl (chM_c i hi).2 ?_
  exact ⟨rfl, rfl⟩
theorem MV.ldcM {Y : Yd} {d n0 a : Nat} {κ : Kd} {h0 : Hp} {s : St} {pc : Nat} {L : List (Option Value)} {rest : List Value} {P : Option Value → St → Prop} (hcl : Y.1.cls = "BurntEndsModel") (hdg : decode Y.2.1 pc = .ok (.ldc 191, 2)) (k : MV Y (d, 0, 0, n0, κ) a h0 s (pc + 2) L (.ref κ.2.1 :: rest) P) : MV Y (d, 0, 0, n0, κ) a h0 s pc L rest P :=
  fun h H hf => V.ldcM hcl hdg (k h H hf)
theorem MV.strLen {Y : Yd} {d n0 a : Nat} {κ : Kd} {h0 : Hp} {s : St} {pc : Nat} {L : List (Option Value)} {rest : List Value} {P : Option Value → St → Prop} {idx : Nat} (hd : 2 ≤ d) (hlk : Cond.methodLink Y.1.cls idx yJ0_length_8abf5 ∈ BG) (hdg : decode Y.2.1 pc = .ok (.invokevirtual idx, 3)) (hrm : (rest.map fun v => v.category).sum ≤ 8) (k : MV Y (d, 0, 0, n0, κ) a h0 s (pc + 3) L (.int 102 :: rest) P) : MV Y (d, 0, 0, n0, κ) a h0 s pc L (.ref κ.2.1 :: rest) P :=
  fun h H hf => V.callVS (Yc := MJ0_length_8abf5) (As := []) (d' := d - 1) (mc' := 0) (ms' := 0) rfl yoJ0_length_8abf5 hlk im_J0_length_8abf5 se_J0_length_8abf5 hdg rfl rfl hrm (by omega) ⟨Nat.le_refl _, Nat.le_refl _⟩ rfl (Nat.le_of_ble_eq_true rfl) (length_V (by omega)) (fun v h' z => by obtain ⟨rfl, e⟩ := z; rw [e]; exact k h H hf)
theorem MV.strAt {Y : Yd} {d n0 a : Nat} {κ : Kd} {h0 : Hp} {s : St} {pc : Nat} {L : List (Option Value)} {rest : List Value} {P : Option Value → St → Prop} {idx : Nat} {i : Nat} (hi : i < 102) (hd : 4 ≤ d) (hlk : Cond.methodLink Y.1.cls idx yJ0_charAt_5068e ∈ BG) (hdg : decode Y.2.1 pc = .ok (.invokevirtual idx, 3)) (hrm : (rest.map fun v => v.category).sum ≤ 8) (k : MV Y (d, 0, 0, n0, κ) a h0 s (pc + 3) L (.int (chM i) :: rest) P) : MV Y (d, 0, 0, n0, κ) a h0 s pc L (.int (nI i) :: .ref κ.2.1 :: rest) P :=
  fun h H hf => V.callVS (Yc := MJ0_charAt_5068e) (As := [.int (nI i)]) (d' := d - 1) (mc' := 0) (ms' := 0) rfl yoJ0_charAt_5068e hlk im_J0_charAt_5068e se_J0_charAt_5068e hdg rfl rfl hrm (by omega) ⟨Nat.le_refl _, Nat.le_refl _⟩ rfl (Nat.le_of_ble_eq_true rfl) (charAt_V (by omega) hi) (fun v h' z => by obtain ⟨rfl, e⟩ := z; rw [e]; exact k h H hf)
