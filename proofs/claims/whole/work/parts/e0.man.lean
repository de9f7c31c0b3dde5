/-! THE MAN, 1: what leaves a method by an exception; VX: V's walk where that may be -/
def eI : String := "java/lang/IndexOutOfBoundsException"
def eN : String := "java/util/NoSuchElementException"
def NX : List Cond := [.declares (Bundle.initS "java/lang/RuntimeException"), .declares (Bundle.initS "java/lang/Exception"), .declares (Bundle.initS Bundle.tN), .castable eI eI, .castable eN eN]
theorem nx_warm {s U : State} (hW : s.WarmedH U.vm) : ∀ w ∈ NX, va_Nw w s → va_Nw w U := by
  intro w hw hz
  unfold NX at hw
  simp only [List.mem_cons, List.not_mem_nil, or_false] at hw
  rcases hw with rfl | rfl | rfl | rfl | rfl
  · exact va_Nw.warmD hW hz
  · exact va_Nw.warmD hW hz
  · exact va_Nw.warmD hW hz
  · exact va_Nw.warmC hW hz
  · exact va_Nw.warmC hW hz
theorem nx_tab : ∀ w ∈ NX, w.onTables = true := by
  intro w hw
  unfold NX at hw
  simp only [List.mem_cons, List.not_mem_nil, or_false] at hw
  rcases hw with rfl | rfl | rfl | rfl | rfl <;> rfl
def XK (A : Nat → Prop) (s : State) (H : Heap) : Prop := (∀ w ∈ NX, va_Nw w s) ∧ va_Nc eN eI s ∧ vx_Zq Bundle.tN "UNASSIGNED_STACK" Bundle.steD A s H ∧ vx_Zq Bundle.tN "SUPPRESSED_SENTINEL" Bundle.listD A s H
theorem XK.warm {A : Nat → Prop} {s U : State} {H : Heap} (hW : s.WarmedH U.vm) (h : XK A s H) : XK A U H := ⟨fun w hw => nx_warm hW w hw (h.1 w hw), va_Nc.moved hW.alike h.2.1, h.2.2.1.moved hW.alike, h.2.2.2.moved hW.alike⟩
theorem XK.same {A : Nat → Prop} {u U : State} {H : Heap} (hv : U.vm = u.vm) (h : XK A u H) : XK A U H := by
  have ha : u.vm.Alike U.vm := by rw [hv]; exact Vm.Alike.refl _
  exact ⟨fun w hw => va_Nw.same (nx_tab w hw) hv.symm (h.1 w hw), va_Nc.moved ha h.2.1, h.2.2.1.moved ha, h.2.2.2.moved ha⟩
theorem XK.kept {A : Nat → Prop} {U : State} {H H1 : Heap} (h : XK A U H) (hq : ∀ a : Nat, a < H.size → ¬ A a → H1[a]? = H[a]?) : XK A U H1 := ⟨h.1, h.2.1, h.2.2.1.kept hq, h.2.2.2.kept hq⟩
theorem XK.narrow {A B : Nat → Prop} {U : State} {H : Heap} (h : XK A U H) (hAB : ∀ q, B q → A q) : XK B U H := ⟨h.1, h.2.1, h.2.2.1.narrow hAB, h.2.2.2.narrow hAB⟩
abbrev FinT : Type := List Frame → Array Value → State → va_G → (Nat → ClassId) → (Nat → Prop) → State → Prop
def VX (Y : Yd) (R : Room) (N0 : Nat) (κ : Kd) (TB : Code → Prop) (FIN : FinT) (gr ca sl : Nat) (h : Hp) (pc : Nat) (L : List (Option Value)) (st : List Value) : Prop :=
  ∀ (p : Program) (l : Launch) (e : Env) (s : State) (m : MethodId) (args : Array Value) (below : List Frame) (meth : Method) (c : Code) (G : va_G) (aC : Nat → ClassId) (A : Nat → Prop) (H : Heap) (locs : List Loc) (ls : Array Slot),
    Fx Y p s m args meth c → l.stackTraces = false → TB c → va_K G vwCl (tysOf aC) s → RO κ A s s.heap → XK A s s.heap → (∀ q : Nat, s.heap.size ≤ q → A q) → s.heap.size = N0 → Rp G aC A h H → H.size = N0 + gr → va_S A s.heap H locs → Lh ls Y.2.2.1 L →
    W p l e R s m args below meth c H locs ca sl (FIN below args s G aC A) (F0 m pc ls st)
theorem VX.go {Y : Yd} {R : Room} {N0 : Nat} {κ : Kd} {TB : Code → Prop} {FIN : FinT} {gr ca sl : Nat} {h : Hp} {pc : Nat} {L : List (Option Value)} {st : List Value} (k : VX Y R N0 κ TB FIN gr ca sl h pc L st)
    {p : Program} {l : Launch} {e : Env} {s : State} {m : MethodId} {args : Array Value} {below : List Frame} {meth : Method} {c : Code} {G : va_G} {aC : Nat → ClassId} {A : Nat → Prop} {H H1 : Heap} {locs locs1 : List Loc} {ls : Array Slot}
    (hF : Fx Y p s m args meth c) (hs : l.stackTraces = false) (hT : TB c) (hK : va_K G vwCl (tysOf aC) s) (hRO : RO κ A s s.heap) (hXK : XK A s s.heap) (hA : ∀ q : Nat, s.heap.size ≤ q → A q) (hn : s.heap.size = N0) (hz : H.size = N0 + gr) (hS : va_S A s.heap H locs) (hL : Lh ls Y.2.2.1 L)
    (hR1 : Rp G aC A h H1) (hS1 : va_S A H H1 locs1) (hgc : gr = ca) : W p l e R s m args below meth c H1 locs1 ca sl (FIN below args s G aC A) (F0 m pc ls st) := by
  intro T hT2 X
  have h1 : T.heap.size ≤ s.heap.size + ca := X.same.2.2.1
  have h2 := hS1.1
  have h3 := hS.1
  rw [hT2] at h1
  exact k p l e s m args below meth c G aC A H1 locs1 ls hF hs hT hK hRO hXK hA hn hR1 (by omega) ⟨Nat.le_trans hS.1 hS1.1, fun q a b => (hS1.2.1 q (Nat.lt_of_lt_of_le a hS.1) b).trans (hS.2.1 q a b), hS1.2.2⟩ hL T hT2 X
section VXrows
variable {Y : Yd} {R : Room} {N0 : Nat} {κ : Kd} {TB : Code → Prop} {FIN : FinT} {gr ca sl : Nat} {h : Hp} {pc : Nat} {L : List (Option Value)} {rest : List Value}
theorem VX.iconst {n : Int} {v : Int32} (hdg : decode Y.2.1 pc = .ok (.iconst n, 1)) (hv : Int32.ofInt n = v) (k : VX Y R N0 κ TB FIN gr ca sl h (pc + 1) L (.int v :: rest)) : VX Y R N0 κ TB FIN gr ca sl h pc L (rest) := by
  intro p l e s m args below meth c G aC A H locs ls hF hs hT hK hRO hXK hA hn hR hz hS hL
  exact lv_iconst hF.1 hF.2.1 hdg hv (k p l e s m args below meth c G aC A H locs ls hF hs hT hK hRO hXK hA hn hR hz hS hL)
theorem VX.iload_n {j : Fin 4} {x : Int32} (hdg : decode Y.2.1 pc = .ok (.iload_n j, 1)) (hx : L[(j : Nat)]? = some (some (.int x))) (k : VX Y R N0 κ TB FIN gr ca sl h (pc + 1) L (.int x :: rest)) : VX Y R N0 κ TB FIN gr ca sl h pc L (rest) := by
  intro p l e s m args below meth c G aC A H locs ls hF hs hT hK hRO hXK hA hn hR hz hS hL
  exact lv_iload_n hF.1 hF.2.1 hdg rfl (hL.at hx) (k p l e s m args below meth c G aC A H locs ls hF hs hT hK hRO hXK hA hn hR hz hS hL)
theorem VX.aload_n {j : Fin 4} {x : Nat} (hdg : decode Y.2.1 pc = .ok (.aload_n j, 1)) (hx : L[(j : Nat)]? = some (some (.ref x))) (k : VX Y R N0 κ TB FIN gr ca sl h (pc + 1) L (.ref x :: rest)) : VX Y R N0 κ TB FIN gr ca sl h pc L (rest) := by
  intro p l e s m args below meth c G aC A H locs ls hF hs hT hK hRO hXK hA hn hR hz hS hL
  exact lv_aload_n hF.1 hF.2.1 hdg rfl (hL.at hx) (k p l e s m args below meth c G aC A H locs ls hF hs hT hK hRO hXK hA hn hR hz hS hL)
theorem VX.istore_n {j : Fin 4} {x : Int32} {L2 : List (Option Value)} (hdg : decode Y.2.1 pc = .ok (.istore_n j, 1)) (hj : (j : Nat) < Y.2.2.1) (hL2 : sto1 (j : Nat) (.int x) L = L2) (k : VX Y R N0 κ TB FIN gr ca sl h (pc + 1) L2 rest) : VX Y R N0 κ TB FIN gr ca sl h pc L (.int x :: rest) := by
  intro p l e s m args below meth c G aC A H locs ls hF hs hT hK hRO hXK hA hn hR hz hS hL
  subst hL2
  obtain ⟨lv, a1, a2⟩ := hL
  exact lv_istore_n hF.1 hF.2.1 hdg rfl a1 hj rfl (fun ls2 h2 => k p l e s m args below meth c G aC A H locs ls2 hF hs hT hK hRO hXK hA hn hR hz hS (Lh.sto1 a2 h2))
theorem VX.astore {j : Nat} {x : Nat} {L2 : List (Option Value)} (hdg : decode Y.2.1 pc = .ok (.astore j, 2)) (hj : j < Y.2.2.1) (hL2 : sto1 j (.ref x) L = L2) (k : VX Y R N0 κ TB FIN gr ca sl h (pc + 2) L2 rest) : VX Y R N0 κ TB FIN gr ca sl h pc L (.ref x :: rest) := by
  intro p l e s m args below meth c G aC A H locs ls hF hs hT hK hRO hXK hA hn hR hz hS hL
  subst hL2
  obtain ⟨lv, a1, a2⟩ := hL
  exact lv_astore hF.1 hF.2.1 hdg a1 hj rfl (fun ls2 h2 => k p l e s m args below meth c G aC A H locs ls2 hF hs hT hK hRO hXK hA hn hR hz hS (Lh.sto1 a2 h2))
theorem VX.if_ne {x : Int32} {off : Int} (tgt : Nat) (hdg : decode Y.2.1 pc = .ok (.ifCond .ne off, 3)) (ht : (pc : Int) + off = (tgt : Int)) (kt : ¬ x = 0 → VX Y R N0 κ TB FIN gr ca sl h tgt L rest) (kf : x = 0 → VX Y R N0 κ TB FIN gr ca sl h (pc + 3) L rest) : VX Y R N0 κ TB FIN gr ca sl h pc L (.int x :: rest) := by
  intro p l e s m args below meth c G aC A H locs ls hF hs hT hK hRO hXK hA hn hR hz hS hL
  exact lv_if_ne hF.1 hF.2.1 hdg ht (fun q => kt q p l e s m args below meth c G aC A H locs ls hF hs hT hK hRO hXK hA hn hR hz hS hL) (fun q => kf q p l e s m args below meth c G aC A H locs ls hF hs hT hK hRO hXK hA hn hR hz hS hL)
theorem VX.getf {ci : Nat} {C : String} {T : u_T} {N : Nat} {ty : Nat → FieldType} (ok : Cok ci C T N ty) (i : Nat) {idx a : Nat} {fs : List Value} {v : Value} (hlk : Cond.fieldLink Y.1.cls idx (T i).1 (T i).2.1 (T i).2.2.1 ∈ BG) (hdg : decode Y.2.1 pc = .ok (.getfield idx, 3)) (hi : i < N) (ha : h a = some (.inr (ci, fs))) (hv : fs[i]? = some v) (k : VX Y R N0 κ TB FIN gr ca sl h (pc + 3) L (v :: rest)) : VX Y R N0 κ TB FIN gr ca sl h pc L (.ref a :: rest) := by
  intro p l e s m args below meth c G aC A H locs ls hF hs hT hK hRO hXK hA hn hR hz hS hL
  obtain ⟨ws, hP, hD, hC⟩ := id hR
  obtain ⟨q, hq⟩ := hC.at ha
  exact va_get hF.1 hF.2.1 hF.2.2.2.2.1 ok.2.1 hF.2.2.2.1 hK hP q hq ok.1 i hi (hF.2.2.2.2.1 _ hlk) (fun x hx => hx) hv hdg (k p l e s m args below meth c G aC A H locs ls hF hs hT hK hRO hXK hA hn hR hz hS hL)
theorem VX.i2l {x : Int32} (hdg : decode Y.2.1 pc = .ok (.i2l, 1)) (k : VX Y R N0 κ TB FIN gr ca sl h (pc + 1) L (.long x.toInt64 :: rest)) : VX Y R N0 κ TB FIN gr ca sl h pc L (.int x :: rest) := by
  intro p l e s m args below meth c G aC A H locs ls hF hs hT hK hRO hXK hA hn hR hz hS hL
  exact lv_i2l hF.1 hF.2.1 hdg rfl (k p l e s m args below meth c G aC A H locs ls hF hs hT hK hRO hXK hA hn hR hz hS hL)
theorem VX.goto {off : Int} (tgt : Nat) (hdg : decode Y.2.1 pc = .ok (.goto off, 3)) (ht : (pc : Int) + off = (tgt : Int)) (k : VX Y R N0 κ TB FIN gr ca sl h tgt L rest) : VX Y R N0 κ TB FIN gr ca sl h pc L rest := by
  intro p l e s m args below meth c G aC A H locs ls hF hs hT hK hRO hXK hA hn hR hz hS hL
  exact lv_goto hF.1 hF.2.1 hdg ht (k p l e s m args below meth c G aC A H locs ls hF hs hT hK hRO hXK hA hn hR hz hS hL)
theorem VX.last {a n : Nat} {f : Nat → Int64} {i : Int32} {x : Int64} (hgc : gr = ca) (hdg : decode Y.2.1 pc = .ok (.lastore, 1)) (ha : h a = some (.inl (1, n, .inr (.inl f)))) (hin : vp_in i n) (k : VX Y R N0 κ TB FIN gr ca sl (up h a (.inl (1, n, .inr (.inl (vp_updL f i.toNatClampNeg x))))) (pc + 1) L rest) : VX Y R N0 κ TB FIN gr ca sl h pc L (.long x :: .int i :: .ref a :: rest) := by
  intro p l e s m args below meth c G aC A H locs ls hF hs hT hK hRO hXK hA hn hR hz hS hL
  obtain ⟨ws, hP, hD, hC⟩ := id hR
  obtain ⟨q, hq⟩ := hC.at ha
  exact va_last hF.1 hF.2.1 hK hP hD hS.here q 1 hq rfl hin hdg (fun H1 locs1 hP1 hD1 hS1 => VX.go k hF hs hT hK hRO hXK hA hn hz hS hL ⟨_, hP1, hD1, hC.set (o := .inl (1, n, .inr (.inl (vp_updL f i.toNatClampNeg x)))) hq⟩ hS1 hgc)
theorem VX.lastH {a n j : Nat} {f : Nat → Int64} {x : Int32} {y : Int64} (hgc : gr = ca) (hdg : decode Y.2.1 pc = .ok (.lastore, 1)) (ha : h a = some (.inl (1, n, .inr (.inl f)))) (hx : x = nI j) (hj : j < n) (hn : n < 2147483648) (k : ∀ h' : Hp, h' a = some (.inl (1, n, .inr (.inl (vp_updL f j y)))) → (∀ b : Nat, b ≠ a → h' b = h b) → VX Y R N0 κ TB FIN gr ca sl h' (pc + 1) L rest) : VX Y R N0 κ TB FIN gr ca sl h pc L (.long y :: .int x :: .ref a :: rest) := by
  subst hx
  refine VX.last hgc hdg ha (vp_in_nI hj hn) ?_
  rw [nI_clamp (Nat.lt_trans hj hn)]
  exact k _ up_s (fun b hb => up_n hb)
theorem VX.tswG {dflt lo hi : Int} {offs : Array Int} {len : Nat} {x : Int32} (ts : List (Int32 × Nat)) (td : Nat) (hdg : decode Y.2.1 pc = .ok (.tableswitch dflt lo hi offs, len)) (htd : (pc : Int) + dflt = (td : Int)) (hok : tsOk pc lo hi offs td ts = true)
    (kin : ∀ q ∈ ts, x = q.1 → VX Y R N0 κ TB FIN gr ca sl h q.2 L rest) (kout : (∀ q ∈ ts, ¬ x = q.1) → VX Y R N0 κ TB FIN gr ca sl h td L rest) : VX Y R N0 κ TB FIN gr ca sl h pc L (.int x :: rest) := by
  intro p l e s m args below meth c G aC A H locs ls hF hs hT hK hRO hXK hA hn hR hz hS hL
  unfold tsOk at hok
  simp only [Bool.and_eq_true, decide_eq_true_eq, List.all_eq_true, List.mem_range] at hok
  obtain ⟨⟨h1, h2⟩, h3⟩ := hok
  have hin : ∀ q ∈ ts, lo ≤ q.1.toInt ∧ q.1.toInt ≤ hi := fun q hq => by
    obtain ⟨a1, a2⟩ := h2 q hq
    refine ⟨a1, ?_⟩
    cases ho : offs[(q.1.toInt - lo).toNat]? with
    | none => rw [ho] at a2; cases a2
    | some off =>
      have := (Array.getElem?_eq_some_iff.mp ho).1
      omega
  rcases Classical.em (x.toInt < lo ∨ hi < x.toInt) with hq | hq
  · exact lv_tableOut hF.1 hF.2.1 hdg hq htd (kout (fun q hq2 hx => by
      have := hin q hq2
      rw [hx] at hq
      omega) p l e s m args below meth c G aC A H locs ls hF hs hT hK hRO hXK hA hn hR hz hS hL)
  · have q1 : ¬ x.toInt < lo := fun z => hq (Or.inl z)
    have q2 : ¬ hi < x.toInt := fun z => hq (Or.inr z)
    have hj : (x.toInt - lo).toNat < offs.size := by omega
    have ho : offs[(x.toInt - lo).toNat]? = some offs[(x.toInt - lo).toNat] := Array.getElem?_eq_getElem hj
    rcases Classical.em (∃ q ∈ ts, x = q.1) with ⟨q, hq3, hx⟩ | hx
    · have b := (h2 q hq3).2
      rw [← hx, ho] at b
      simp only [decide_eq_true_eq] at b
      exact lv_tableIn hF.1 hF.2.1 hdg q1 q2 ho b (kin q hq3 hx p l e s m args below meth c G aC A H locs ls hF hs hT hK hRO hXK hA hn hR hz hS hL)
    · have a := h3 _ hj
      rw [ho] at a
      simp only [Bool.or_eq_true, decide_eq_true_eq, List.any_eq_true] at a
      rcases a with a | ⟨q, hq3, a⟩
      · exact lv_tableIn hF.1 hF.2.1 hdg q1 q2 ho a (kout (fun q hq3 hx2 => hx ⟨q, hq3, hx2⟩) p l e s m args below meth c G aC A H locs ls hF hs hT hK hRO hXK hA hn hR hz hS hL)
      · exact absurd ⟨q, hq3, Int32.toInt_inj.mp (by omega)⟩ hx
theorem vx_tw : ∀ w ∈ (xvAt "BurntEnds" 128 eI 7 prog_19_method_2_code "java/lang/RuntimeException" ["java/lang/Exception"]).filter vx_no, True := fun _ _ => trivial
theorem exI_good : ∀ w ∈ ((xvAt "BurntEnds" 128 eI 7 prog_19_method_2_code "java/lang/RuntimeException" ["java/lang/Exception"]).filter vx_no).filter goodWord, w ∈ BG := bg_list [21, 1172, 1181, 1184, 1187, 1189, 1173, 1174, 34, 35, 1175, 1180, 1185, 1205, 1162, 1206, 1164, 1207, 1166, 1176, 1178, 1168, 1201, 1202, 1204, 1168, 1192, 1193, 1194, 1195, 1195, 1196, 1197, 1198, 1198, 1199, 1200, 1201, 1191, 1151, 1159, 1160, 1161, 1163, 1165, 1167, 1171, 1170, 1169] (by decide +kernel)
theorem exN_good : ∀ w ∈ ((xvAt "BurntEnds" 160 eN 13 prog_32_method_4_code "java/lang/RuntimeException" ["java/lang/Exception"]).filter vx_no).filter goodWord, w ∈ BG := bg_list [21, 1172, 1181, 1184, 1187, 1189, 1173, 1174, 34, 35, 1175, 1180, 1185, 1205, 1162, 1206, 1164, 1207, 1166, 1176, 1178, 1168, 1201, 1202, 1204, 1168, 1228, 1229, 1230, 1195, 1195, 1196, 1197, 1198, 1198, 1199, 1200, 1201, 1227, 1218, 1220, 1183, 1221, 1222, 1223, 1224, 1171, 1170, 1225] (by decide +kernel)
theorem exI_nx : ∀ w ∈ ((xvAt "BurntEnds" 128 eI 7 prog_19_method_2_code "java/lang/RuntimeException" ["java/lang/Exception"]).filter vx_no).filter (fun w => !goodWord w), w ∈ NX := fun w hw => List.mem_of_elem_eq_true (List.all_eq_true.mp (show (((xvAt "BurntEnds" 128 eI 7 prog_19_method_2_code "java/lang/RuntimeException" ["java/lang/Exception"]).filter vx_no).filter (fun w => !goodWord w)).all (fun w => NX.elem w) = true by decide +kernel) w hw)
theorem exN_nx : ∀ w ∈ ((xvAt "BurntEnds" 160 eN 13 prog_32_method_4_code "java/lang/RuntimeException" ["java/lang/Exception"]).filter vx_no).filter (fun w => !goodWord w), w ∈ NX := fun w hw => List.mem_of_elem_eq_true (List.all_eq_true.mp (show (((xvAt "BurntEnds" 160 eN 13 prog_32_method_4_code "java/lang/RuntimeException" ["java/lang/Exception"]).filter vx_no).filter (fun w => !goodWord w)).all (fun w => NX.elem w) = true by decide +kernel) w hw)
theorem exI_ot : ∀ w ∈ Cond.classLink "BurntEnds" 124 eI :: Cond.initialized eI :: (xvAt "BurntEnds" 128 eI 7 prog_19_method_2_code "java/lang/RuntimeException" ["java/lang/Exception"]).filter vx_no, vx_ot w = true := List.all_eq_true.mp (by decide +kernel)
theorem exN_ot : ∀ w ∈ Cond.classLink "BurntEnds" 156 eN :: Cond.initialized eN :: (xvAt "BurntEnds" 160 eN 13 prog_32_method_4_code "java/lang/RuntimeException" ["java/lang/Exception"]).filter vx_no, vx_ot w = true := List.all_eq_true.mp (by decide +kernel)
theorem exI_0 : Cond.classLink "BurntEnds" 124 eI ∈ BG := bg_of 1150 (by decide +kernel)
theorem exN_0 : Cond.classLink "BurntEnds" 156 eN ∈ BG := bg_of 1217 (by decide +kernel)
theorem exI_1 : Cond.initialized eI ∈ BG := bg_of 24 (by decide +kernel)
theorem exN_1 : Cond.initialized eN ∈ BG := bg_of 26 (by decide +kernel)
theorem exI_c : Cond.classLink RL 13 eI ∈ BG := bg_of 1144 (by decide +kernel)
theorem exN_c : Cond.classLink RL 15 eN ∈ BG := bg_of 1145 (by decide +kernel)
end VXrows
