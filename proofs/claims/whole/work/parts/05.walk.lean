/-! V: from here (method Y, heap h, place pc, locals L, stack st) the method comes to an end that P allows. Z = depth, cells and slots that it makes in all, the heap's size at its start; ca, sl: made so far. -/
def Fx (Y : Yd) (p : Program) (s : State) (m : MethodId) (args : Array Value) (meth : Method) (c : Code) : Prop :=
  p.tables.exec = Jvm.exec ∧ c.code = Y.2.1 ∧ c.maxLocals = Y.2.2.1 ∧ s.vm.findClass Y.1.cls = some m.cls ∧ (∀ w ∈ BG, w.before args s = true) ∧ meth.sig.returnType = Y.2.2.2 ∧ meth.locks = false ∧ meth.name = Y.1.name ∧ ∀ w ∈ NW, va_Nw w s
def Cov (aC : Nat → ClassId) (h : Hp) (ws : va_W) : Prop := ∀ (a : Nat) (o : Ob), h a = some o → (a, co aC o) ∈ ws
def Rp (G : va_G) (aC : Nat → ClassId) (A : Nat → Prop) (h : Hp) (H : Heap) : Prop := ∃ ws : va_W, va_P G vwCl ws H ∧ va_D A ws ∧ Cov aC h ws
def Qp (G : va_G) (aC : Nat → ClassId) (A : Nat → Prop) (mc : Nat) (P : Option Value → Hp → Prop) : Array Value → State → Outcome → State → Prop := fun _ st o t =>
  (∃ (v : Option Value) (h' : Hp), o = .returned v ∧ P v h' ∧ Rp G aC A h' t.heap ∧ t.heap.size = st.heap.size + mc) ∧ va_F A st t
abbrev Zd : Type := Nat × Nat × Nat × Nat × Kd
def V (Y : Yd) (Z : Zd) (ca sl : Nat) (h : Hp) (pc : Nat) (L : List (Option Value)) (st : List Value) (P : Option Value → Hp → Prop) : Prop :=
  ∀ (p : Program) (l : Launch) (e : Env) (s : State) (m : MethodId) (args : Array Value) (below : List Frame) (meth : Method) (c : Code) (G : va_G) (aC : Nat → ClassId) (A : Nat → Prop) (H : Heap) (locs : List Loc) (ls : Array Slot),
    Fx Y p s m args meth c → va_K G vwCl (tysOf aC) s → RO Z.2.2.2.2 A s s.heap → (∀ q : Nat, s.heap.size ≤ q → A q) → s.heap.size = Z.2.2.2.1 → Rp G aC A h H → H.size = Z.2.2.2.1 + ca → va_S A s.heap H locs → Lh ls Y.2.2.1 L →
    W p l e (rmO Z.1 Z.2.1 Z.2.2.1) s m args below meth c H locs ca sl (MQ below (Qp G aC A Z.2.1 P) args s Z.2.1 Z.2.2.1 A) (F0 m pc ls st)
/-- what a method's entry wants of its name -/
def Yok (Y : Yd) (n : Nat) : Prop := plainName Y.1.cls = true ∧ (Y.1.cls ≠ "java/lang/invoke/MethodHandle" ∧ Y.1.cls ≠ "java/lang/invoke/VarHandle") ∧ (parseMethodDescriptor Y.1.desc).map (fun d => d.parameters.length) = some n ∧ Y.2.2.1 ≤ 22 ∧ Cond.code Y.1 Y.2.1 Y.2.2.1 Y.2.2.2 ∈ BG ∧ Cond.initialized Y.1.cls ∈ BG
def wsY (Y : Yd) : List Cond := Cond.code Y.1 Y.2.1 Y.2.2.1 Y.2.2.2 :: BG
theorem wsY_good {Y : Yd} {n : Nat} (hY : Yok Y n) : GoodIn BG (wsY Y) := fun w h => by
  rcases List.mem_cons.mp h with rfl | h
  · exact bg_good [] _ hY.2.2.2.2.1
  · exact bg_good [] _ h
/-- what holds at a method's entry -/
def PcY (κ : Kd) (aC : Nat → ClassId) (G : va_G) (ws : va_W) (n0 : Nat) (As : List Value) : Array Value → State → Prop :=
  va_Pc As (fun U => U.heap.size = n0 ∧ va_P G vwCl ws U.heap ∧ va_K G vwCl (tysOf aC) U ∧ va_D (fun _ => True) ws ∧ RO κ (va_A ws n0) U U.heap ∧ ∀ w ∈ NW, va_Nw w U)
theorem PcY_blind {κ : Kd} {aC : Nat → ClassId} {G : va_G} {ws : va_W} {n0 : Nat} {As : List Value} : FrameBlind (PcY κ aC G ws n0 As) := by
  intro a U g mk q
  obtain ⟨q1, q2, q3, q4, q5, q6, q7⟩ := q
  exact ⟨q1, q2, q3, va_K.moved (u := U) (U := U.calling g mk a) (Vm.Alike.refl U.vm) q4, q5, RO.same (u := U) rfl q6, fun w hw => nw_same (u := U) (U := U.calling g mk a) rfl hw (q7 w hw)⟩
theorem V.met {Y : Yd} {κ : Kd} {n d mc ms n0 : Nat} {h : Hp} {As : List Value} {P : Option Value → Hp → Prop} (hY : Yok Y n) (hn : (lg_sl As).length ≤ Y.2.2.1) (hV : V Y (d, mc, ms, n0, κ) 0 0 h 0 (padL Y.2.2.1 (entA As)) [] P)
    (l : Launch) (G : va_G) (aC : Nat → ClassId) (ws : va_W) (hC : Cov aC h ws) : Met l Y.1 (wsY Y) (rmO d mc ms) (PcY κ aC G ws n0 As) (Qp G aC (va_A ws n0) mc P) mc ms (va_A ws n0) := by
  refine Met.ofW (cc := Y.2.1) (maxL := Y.2.2.1) (ret := Y.2.2.2) hY.1 rfl ?_
  intro p e s m args below meth c s₁ B hml hv
  obtain ⟨rfl, hsz, hP, hK, hD0, hRO, hNW⟩ := hv
  have hts := atoms_spec (ws := wsY Y) B.pre
  have hown : s.vm.findClass Y.1.cls = some m.cls := findClass_of_methodNamed B.named
  have hin : meth.name = Y.1.name := (name_of_methodNamed B.named B.method).1
  rw [lg_entry_eq]
  exact hV p l e s m _ below meth c G aC (va_A ws n0) s.heap [] _ ⟨B.exec, B.bytes, hml, hown, fun w hw => hts w (List.mem_cons_of_mem _ hw), B.returns, B.notSynchronized, hin, hNW⟩ hK hRO (fun q hq => Or.inr (by omega)) hsz
    ⟨ws, hP, hD0.self, hC⟩ hsz va_S.rf (Lh.entry hn)
theorem Rp.grow {G : va_G} {aC : Nat → ClassId} {A B : Nat → Prop} {h : Hp} {H : Heap} (hR : Rp G aC A h H) (hAB : ∀ q, A q → B q) : Rp G aC B h H := by
  obtain ⟨ws, h1, h2, h3⟩ := hR
  exact ⟨ws, h1, h2.weaken fun k q _ a => hAB q.1 a, h3⟩
theorem Cov.at {aC : Nat → ClassId} {h : Hp} {ws : va_W} {a : Nat} {o : Ob} (hC : Cov aC h ws) (ha : h a = some o) : ∃ k : Nat, ws[k]? = some (a, co aC o) := List.getElem?_of_mem (hC a o ha)
/-- behind a write at a -/
theorem Cov.set {aC : Nat → ClassId} {h : Hp} {ws : va_W} {a k : Nat} {e : va_E} {o : Ob} (hC : Cov aC h ws) (hk : ws[k]? = some (a, e)) : Cov aC (up h a o) (ws.set k (a, co aC o)) := by
  have hl := (List.getElem?_eq_some_iff.mp hk).1
  intro b o2 hb
  by_cases hab : b = a
  · subst hab
    rw [up_s] at hb
    cases hb
    exact List.mem_of_getElem? (List.getElem?_set_self hl)
  · rw [up_n hab] at hb
    obtain ⟨j, hj⟩ := hC.at hb
    have hjk : k ≠ j := by
      intro q
      subst q
      rw [hk] at hj
      cases hj
      exact hab rfl
    exact List.mem_of_getElem? ((List.getElem?_set_ne hjk).trans hj)
theorem Cov.push {aC : Nat → ClassId} {h : Hp} {ws : va_W} {a : Nat} {o : Ob} (hC : Cov aC h ws) : Cov aC (up h a o) (ws ++ [(a, co aC o)]) := by
  intro b o2 hb
  by_cases hab : b = a
  · subst hab
    rw [up_s] at hb
    cases hb
    exact List.mem_append_right _ List.mem_cons_self
  · rw [up_n hab] at hb
    exact List.mem_append_left _ (hC b o2 hb)
/-- fewer locals known, another end -/
theorem V.weak {Y : Yd} {Z : Zd} {ca sl : Nat} {h : Hp} {pc : Nat} {L : List (Option Value)} (L' : List (Option Value)) {st : List Value} {P : Option Value → Hp → Prop} (hl : leL L' L) (k : V Y Z ca sl h pc L' st P) : V Y Z ca sl h pc L st P := by
  intro p l e s m args below meth c G aC A H locs ls hF hK hRO hA hn hR hz hS hL
  obtain ⟨lv, a1, a2⟩ := hL
  exact k p l e s m args below meth c G aC A H locs ls hF hK hRO hA hn hR hz hS ⟨lv, a1, fun i v hi => a2 i v (leL_s L' L hl i v hi)⟩
theorem V.post {Y : Yd} {Z : Zd} {ca sl : Nat} {h : Hp} {pc : Nat} {L : List (Option Value)} {st : List Value} {P P' : Option Value → Hp → Prop} (hp : ∀ v h', P' v h' → P v h') (k : V Y Z ca sl h pc L st P') : V Y Z ca sl h pc L st P := by
  intro p l e s m args below meth c G aC A H locs ls hF hK hRO hA hn hR hz hS hL T hT X
  obtain ⟨t, a, o, b1, b2, ⟨⟨v, h', c1, c2, c3⟩, c4⟩, b4⟩ := k p l e s m args below meth c G aC A H locs ls hF hK hRO hA hn hR hz hS hL T hT X
  exact ⟨t, a, o, b1, b2, ⟨⟨v, h', c1, hp v h' c2, c3⟩, c4⟩, b4⟩
theorem lh_size {ls : Array Slot} {nL : Nat} {L : List (Option Value)} (h : Lh ls nL L) : ls.size = nL := by
  obtain ⟨l, a1, a2⟩ := h
  exact a1.1
theorem vA_in {A : Nat → Prop} {ws : va_W} {n n0 : Nat} (hD : va_D A ws) (hA : ∀ q : Nat, n0 ≤ q → A q) (hn : n0 ≤ n) : ∀ q, va_A ws n q → A q := by
  intro q h
  rcases h with ⟨k, e, h⟩ | h
  · exact hD.2 k (q, e) h
  · exact hA q (Nat.le_trans hn h)
/-- behind a call -/
theorem V.after {Y : Yd} {d mc ms n0 ca sl mc' ms' : Nat} {κ : Kd} {pc : Nat} {L : List (Option Value)} {st0 rest : List Value} {P P1 : Option Value → Hp → Prop}
    (kk : ∀ (v : Option Value) (h' : Hp), P1 v h' → V Y (d, mc, ms, n0, κ) (ca + mc') (sl + ms') h' (pc + 3) L (v.toList ++ rest) P)
    {p : Program} {l : Launch} {e : Env} {s : State} {m : MethodId} {args a : Array Value} {below : List Frame} {meth : Method} {c : Code} {G : va_G} {aC : Nat → ClassId} {A : Nat → Prop} {H : Heap} {locs : List Loc} {ls : Array Slot} {ws : va_W}
    (hF : Fx Y p s m args meth c) (hK : va_K G vwCl (tysOf aC) s) (hRO : RO κ A s s.heap) (hA : ∀ q : Nat, s.heap.size ≤ q → A q) (hn : s.heap.size = n0) (hD : va_D A ws) (hz : H.size = n0 + ca) (hS : va_S A s.heap H locs) (hL : Lh ls Y.2.2.1 L)
    (hr : va_Run p l e (rmO d mc ms) s m args below meth c H locs ca sl mc' ms' (F0 m pc ls st0) rest (Qp G aC (va_A ws (n0 + ca)) mc' P1 a) (va_A ws (n0 + ca))) :
    W p l e (rmO d mc ms) s m args below meth c H locs ca sl (MQ below (Qp G aC A mc P) args s mc ms A) (F0 m pc ls st0) := by
  intro T hT X
  obtain ⟨v, st₀, t, T', L1, h0, X', hL1, e1, e2, ⟨⟨v', h', hv, hP1, hR, hsz⟩, hq, hk⟩, st⟩ := hr T hT X
  cases hv
  rw [h0] at hq hk hsz
  have hB : ∀ q, va_A ws (n0 + ca) q → A q := vA_in hD hA (by omega)
  obtain ⟨t2, a1, b1⟩ := kk v h' hP1 p l e s m args below meth c G aC A T'.heap (locs ++ L1) ls hF hK hRO hA hn (by rw [e1]; exact hR.grow hB) (by rw [e1, hsz]; show H.size + mc' = n0 + (ca + mc'); omega)
    ⟨Nat.le_trans hS.1 (by rw [e1]; exact hq), fun q h1 h2 => by
      rw [e1, hk q (Nat.lt_of_lt_of_le h1 hS.1) (fun z => h2 (hB q z))]
      exact hS.2.1 q h1 h2, fun q hq => by
      rcases List.mem_append.mp hq with h | h
      · exact hS.2.2 q h
      · exact hB _ (hL1 q h)⟩ hL T' rfl X'
  exact ⟨t2, st t2 a1, b1⟩
/-- a method's start, told by the caller's state -/
theorem V.pre {κ : Kd} {s : State} {G : va_G} {aC : Nat → ClassId} {A : Nat → Prop} {H : Heap} {locs : List Loc} {ws : va_W} {n0 ca : Nat} {As : List Value}
    (hNW : ∀ w ∈ NW, va_Nw w s) (hK : va_K G vwCl (tysOf aC) s) (hRO : RO κ A s s.heap) (hA : ∀ q : Nat, s.heap.size ≤ q → A q) (hn : s.heap.size = n0) (hP : va_P G vwCl ws H) (hD : va_D A ws) (hz : H.size = n0 + ca) (hS : va_S A s.heap H locs) :
    FrameBlind (PcY κ aC G ws (n0 + ca) As) ∧ ∀ U : State, U.heap = H → s.WarmedH U.vm → PcY κ aC G ws (n0 + ca) As As.toArray U := by
  refine ⟨PcY_blind, fun U hU hW => ⟨rfl, by rw [hU]; exact hz, by rw [hU]; exact hP, va_K.moved hW.alike hK, hD.weaken (fun _ _ _ _ => trivial), ?_, fun w hw => nw_warm hW hw (hNW w hw)⟩⟩
  rw [hU]
  exact ((hRO.kept hS.2.1).warm hW).narrow (vA_in hD hA (by omega))
section Calls
variable {Y Yc : Yd} {d mc ms n0 ca sl d' mc' ms' n : Nat} {κ : Kd} {h : Hp} {pc : Nat} {L : List (Option Value)} {st rest As : List Value} {P P1 : Option Value → Hp → Prop} {idx b ci : Nat} {fs : List Value} {T : u_T} {N : Nat} {Lc : List (Option Value)}
theorem vrm {d d' maxL : Nat} (hd : d' + 1 ≤ d) (hm : maxL ≤ 22) {mc ms mc' ms' : Nat} : (rmO d' mc' ms').frames + 1 ≤ (rmO d mc ms).frames ∧ 8 + (maxL + 11) + (rmO d' mc' ms').locals ≤ (rmO d mc ms).locals := by
  refine ⟨hd, ?_⟩
  show 8 + (maxL + 11) + 41 * d' ≤ 41 * d
  omega
theorem V.callV (hok : Yok Yc n) (hlk : Cond.methodLink Y.1.cls idx Yc.1 ∈ BG) (hin : Cond.instanceMethod Yc.1 ∈ BG) (hse : Cond.selects Yc.1.cls Yc.1 Yc.1 ∈ BG) (hdg : decode Y.2.1 pc = .ok (.invokevirtual idx, 3))
    (hc : vwCl[ci]? = some (Yc.1.cls, T, N)) (hb : h b = some (.inr (ci, fs))) (hst : st = As.reverse ++ .ref b :: rest) (hn : As.length = n) (hrm : (rest.map fun v => v.category).sum ≤ 8) (hd : d' + 1 ≤ d) (hm : ca + mc' ≤ mc ∧ sl + ms' ≤ ms)
    (hLc : padL Yc.2.2.1 (entA (.ref b :: As)) = Lc) (hle : (lg_sl (.ref b :: As)).length ≤ Yc.2.2.1)
    (hV : V Yc (d', mc', ms', n0 + ca, κ) 0 0 h 0 Lc [] P1)
    (kk : ∀ (v : Option Value) (h' : Hp), P1 v h' → V Y (d, mc, ms, n0, κ) (ca + mc') (sl + ms') h' (pc + 3) L (v.toList ++ rest) P) : V Y (d, mc, ms, n0, κ) ca sl h pc L st P := by
  subst hst
  subst hLc
  intro p l e s m args below meth c G aC A H locs ls hF hK hRO hA hsz hR hz hS hL
  obtain ⟨ws, hP, hD, hC⟩ := hR
  obtain ⟨k, hk⟩ := hC.at hb
  obtain ⟨f1, f2, f3, f4, f5, f6, f7, f8, f9⟩ := id hF
  have hpr := V.pre (As := .ref b :: As) f9 hK hRO hA hsz hP hD hz hS
  exact V.after kk hF hK hRO hA hsz hD hz hS hL (va_runV (Ts := BG) ⟨f1, f2, f3, f4, f5⟩ (V.met hok hle hV l G aC ws hC)
    ⟨callB_of (ws' := BG) n f5 (wsY_good hok) rfl rfl rfl (f5 _ hok.2.2.2.2.2) (f5 _ hlk) ⟨hok.2.1.1, hok.2.1.2, hok.2.2.1⟩ (vrm hd hok.2.2.2.1), f5 _ hin, f5 _ hse⟩
    ⟨hpr.1, va_recv hK hP hc hk, hpr.2⟩ rfl hn (lh_size hL) rfl (lv_room hrm) hdg hm)
theorem V.callI (hok : Yok Yc n) (hnm : Yc.1.name = "<init>") (hret : Yc.2.2.2 = none) (hlk : Cond.methodLink Y.1.cls idx Yc.1 ∈ BG) (hin : Cond.instanceMethod Yc.1 ∈ BG) (hdg : decode Y.2.1 pc = .ok (.invokespecial idx, 3))
    (hst : st = As.reverse ++ .ref b :: rest) (hn : As.length = n) (hrm : (rest.map fun v => v.category).sum ≤ 8) (hd : d' + 1 ≤ d) (hm : ca + mc' ≤ mc ∧ sl + ms' ≤ ms)
    (hLc : padL Yc.2.2.1 (entA (.ref b :: As)) = Lc) (hle : (lg_sl (.ref b :: As)).length ≤ Yc.2.2.1)
    (hV : V Yc (d', mc', ms', n0 + ca, κ) 0 0 h 0 Lc [] P1)
    (kk : ∀ (v : Option Value) (h' : Hp), P1 v h' → V Y (d, mc, ms, n0, κ) (ca + mc') (sl + ms') h' (pc + 3) L (v.toList ++ rest) P) : V Y (d, mc, ms, n0, κ) ca sl h pc L st P := by
  subst hst
  subst hLc
  intro p l e s m args below meth c G aC A H locs ls hF hK hRO hA hsz hR hz hS hL
  obtain ⟨ws, hP, hD, hC⟩ := hR
  obtain ⟨f1, f2, f3, f4, f5, f6, f7, f8, f9⟩ := id hF
  have hpr := V.pre (As := .ref b :: As) f9 hK hRO hA hsz hP hD hz hS
  have hcb := callB_of (R := rmO d mc ms) (rm := rmO d' mc' ms') (own := Y.1.cls) (index := idx) (y := Yc.1) (bytes := Yc.2.1) (maxL := Yc.2.2.1) (ret := Yc.2.2.2) (ws := wsY Yc) (ws' := BG) n f5 (wsY_good hok) rfl rfl rfl (f5 _ hok.2.2.2.2.2) (f5 _ hlk) ⟨hok.2.1.1, hok.2.1.2, hok.2.2.1⟩ (vrm hd hok.2.2.2.1)
  rw [hret] at hcb
  exact V.after kk hF hK hRO hA hsz hD hz hS hL (va_runI (Ts := BG) ⟨f1, f2, f3, f4, f5⟩ (V.met hok hle hV l G aC ws hC)
    ⟨hcb, hnm, f5 _ hin⟩ hpr rfl hn (lh_size hL) rfl (lv_room hrm) hdg hm)
theorem V.callS (hok : Yok Yc n) (hlk : Cond.methodLink Y.1.cls idx Yc.1 ∈ BG) (hin : Cond.static Yc.1 ∈ BG) (hdg : decode Y.2.1 pc = .ok (.invokestatic idx, 3))
    (hst : st = As.reverse ++ rest) (hn : As.length = n) (hrm : (rest.map fun v => v.category).sum ≤ 8) (hd : d' + 1 ≤ d) (hm : ca + mc' ≤ mc ∧ sl + ms' ≤ ms)
    (hLc : padL Yc.2.2.1 (entA As) = Lc) (hle : (lg_sl As).length ≤ Yc.2.2.1)
    (hV : V Yc (d', mc', ms', n0 + ca, κ) 0 0 h 0 Lc [] P1)
    (kk : ∀ (v : Option Value) (h' : Hp), P1 v h' → V Y (d, mc, ms, n0, κ) (ca + mc') (sl + ms') h' (pc + 3) L (v.toList ++ rest) P) : V Y (d, mc, ms, n0, κ) ca sl h pc L st P := by
  subst hst
  subst hLc
  intro p l e s m args below meth c G aC A H locs ls hF hK hRO hA hsz hR hz hS hL
  obtain ⟨ws, hP, hD, hC⟩ := hR
  obtain ⟨f1, f2, f3, f4, f5, f6, f7, f8, f9⟩ := id hF
  have hpr := V.pre (As := As) f9 hK hRO hA hsz hP hD hz hS
  exact V.after kk hF hK hRO hA hsz hD hz hS hL (va_runS (Ts := BG) ⟨f1, f2, f3, f4, f5⟩ (V.met hok hle hV l G aC ws hC)
    ⟨callB_of (ws' := BG) n f5 (wsY_good hok) rfl rfl rfl (f5 _ hok.2.2.2.2.2) (f5 _ hlk) ⟨hok.2.1.1, hok.2.1.2, hok.2.2.1⟩ (vrm hd hok.2.2.2.1), f5 _ hin⟩
    hpr rfl hn (lh_size hL) rfl (lv_room hrm) hdg hm)
/-- a nest mate's private constructor -/
theorem V.callIN {host : String} (hok : Yok Yc n) (hnm : Yc.1.name = "<init>") (hret : Yc.2.2.2 = none) (hlk : Cond.methodLinkNest Y.1.cls idx Yc.1 host ∈ NW) (hin : Cond.instanceMethod Yc.1 ∈ BG) (hdg : decode Y.2.1 pc = .ok (.invokespecial idx, 3))
    (hst : st = As.reverse ++ .ref b :: rest) (hn : As.length = n) (hrm : (rest.map fun v => v.category).sum ≤ 8) (hd : d' + 1 ≤ d) (hm : ca + mc' ≤ mc ∧ sl + ms' ≤ ms)
    (hLc : padL Yc.2.2.1 (entA (.ref b :: As)) = Lc) (hle : (lg_sl (.ref b :: As)).length ≤ Yc.2.2.1)
    (hV : V Yc (d', mc', ms', n0 + ca, κ) 0 0 h 0 Lc [] P1)
    (kk : ∀ (v : Option Value) (h' : Hp), P1 v h' → V Y (d, mc, ms, n0, κ) (ca + mc') (sl + ms') h' (pc + 3) L (v.toList ++ rest) P) : V Y (d, mc, ms, n0, κ) ca sl h pc L st P := by
  subst hst
  subst hLc
  intro p l e s m args below meth c G aC A H locs ls hF hK hRO hA hsz hR hz hS hL
  obtain ⟨ws, hP, hD, hC⟩ := hR
  obtain ⟨f1, f2, f3, f4, f5, f6, f7, f8, f9⟩ := id hF
  have hpr := V.pre (As := .ref b :: As) f9 hK hRO hA hsz hP hD hz hS
  have hcb := va_cnB (R := rmO d mc ms) (args := args) (rm := rmO d' mc' ms') (own := Y.1.cls) (host := host) (index := idx) (y := Yc.1) (bytes := Yc.2.1) (maxL := Yc.2.2.1) (ret := Yc.2.2.2) (ws := wsY Yc) (ws' := BG) n f5 (wsY_good hok) rfl rfl rfl (f9 _ hlk) (f5 _ hok.2.2.2.2.2) ⟨hok.2.1.1, hok.2.1.2, hok.2.2.1⟩ (vrm hd hok.2.2.2.1)
  rw [hret] at hcb
  exact V.after kk hF hK hRO hA hsz hD hz hS hL (va_runIN (Ts := BG) ⟨f1, f2, f3, f4, f5⟩ (V.met hok hle hV l G aC ws hC)
    ⟨hcb, hnm, f5 _ hin⟩ hpr rfl hn (lh_size hL) rfl (lv_room hrm) hdg hm)
/-- a nest mate's private static method -/
theorem V.callSN {host : String} (hok : Yok Yc n) (hlk : Cond.methodLinkNest Y.1.cls idx Yc.1 host ∈ NW) (hin : Cond.static Yc.1 ∈ BG) (hdg : decode Y.2.1 pc = .ok (.invokestatic idx, 3))
    (hst : st = As.reverse ++ rest) (hn : As.length = n) (hrm : (rest.map fun v => v.category).sum ≤ 8) (hd : d' + 1 ≤ d) (hm : ca + mc' ≤ mc ∧ sl + ms' ≤ ms)
    (hLc : padL Yc.2.2.1 (entA As) = Lc) (hle : (lg_sl As).length ≤ Yc.2.2.1)
    (hV : V Yc (d', mc', ms', n0 + ca, κ) 0 0 h 0 Lc [] P1)
    (kk : ∀ (v : Option Value) (h' : Hp), P1 v h' → V Y (d, mc, ms, n0, κ) (ca + mc') (sl + ms') h' (pc + 3) L (v.toList ++ rest) P) : V Y (d, mc, ms, n0, κ) ca sl h pc L st P := by
  subst hst
  subst hLc
  intro p l e s m args below meth c G aC A H locs ls hF hK hRO hA hsz hR hz hS hL
  obtain ⟨ws, hP, hD, hC⟩ := hR
  obtain ⟨f1, f2, f3, f4, f5, f6, f7, f8, f9⟩ := id hF
  have hpr := V.pre (As := As) f9 hK hRO hA hsz hP hD hz hS
  exact V.after kk hF hK hRO hA hsz hD hz hS hL (va_runSN (Ts := BG) ⟨f1, f2, f3, f4, f5⟩ (V.met hok hle hV l G aC ws hC)
    ⟨va_cnB (ws' := BG) n f5 (wsY_good hok) rfl rfl rfl (f9 _ hlk) (f5 _ hok.2.2.2.2.2) ⟨hok.2.1.1, hok.2.1.2, hok.2.2.1⟩ (vrm hd hok.2.2.2.1), f5 _ hin, trivial⟩
    hpr rfl hn (lh_size hL) rfl (lv_room hrm) hdg hm)
end Calls
