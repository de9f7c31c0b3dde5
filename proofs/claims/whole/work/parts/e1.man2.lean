/-! THE MAN, 2: calls in VX, the class's man where it throws -/
def PcX (κ : Kd) (aC : Nat → ClassId) (G : va_G) (ws : va_W) (n0 : Nat) (As : List Value) : Array Value → State → Prop :=
  va_Pc As (fun U => U.heap.size = n0 ∧ va_P G vwCl ws U.heap ∧ va_K G vwCl (tysOf aC) U ∧ va_D (fun _ => True) ws ∧ RO κ (va_A ws n0) U U.heap ∧ (∀ w ∈ NW, va_Nw w U) ∧ XK (va_A ws n0) U U.heap)
theorem PcX_blind {κ : Kd} {aC : Nat → ClassId} {G : va_G} {ws : va_W} {n0 : Nat} {As : List Value} : FrameBlind (PcX κ aC G ws n0 As) := by
  intro a U g mk q
  obtain ⟨q1, q2, q3, q4, q5, q6, q7, q8⟩ := q
  exact ⟨q1, q2, q3, va_K.moved (u := U) (U := U.calling g mk a) (Vm.Alike.refl U.vm) q4, q5, RO.same (u := U) rfl q6, fun w hw => nw_same (u := U) (U := U.calling g mk a) rfl hw (q7 w hw), XK.same (u := U) rfl q8⟩
theorem VX.pre {κ : Kd} {s : State} {G : va_G} {aC : Nat → ClassId} {A : Nat → Prop} {H : Heap} {locs : List Loc} {ws : va_W} {n0 gr : Nat} {As : List Value}
    (hNW : ∀ w ∈ NW, va_Nw w s) (hK : va_K G vwCl (tysOf aC) s) (hRO : RO κ A s s.heap) (hXK : XK A s s.heap) (hA : ∀ q : Nat, s.heap.size ≤ q → A q) (hn : s.heap.size = n0) (hP : va_P G vwCl ws H) (hD : va_D A ws) (hz : H.size = n0 + gr) (hS : va_S A s.heap H locs) :
    FrameBlind (PcX κ aC G ws (n0 + gr) As) ∧ ∀ U : State, U.heap = H → s.WarmedH U.vm → PcX κ aC G ws (n0 + gr) As As.toArray U := by
  refine ⟨PcX_blind, fun U hU hW => ⟨rfl, by rw [hU]; exact hz, by rw [hU]; exact hP, va_K.moved hW.alike hK, hD.weaken (fun _ _ _ _ => trivial), ?_, fun w hw => nw_warm hW hw (hNW w hw), ?_⟩⟩
  · rw [hU]
    exact ((hRO.kept hS.2.1).warm hW).narrow (vA_in hD hA (by omega))
  · rw [hU]
    exact ((hXK.kept hS.2.1).warm hW).narrow (vA_in hD hA (by omega))
def noTB : Code → Prop := fun c => ∀ x ∈ c.exceptionTable.toList, False
section VXcalls
variable {Y Yc : Yd} {κ : Kd} {TB : Code → Prop} {FIN : FinT} {N0 gr ca sl d mc ms d' n : Nat} {h : Hp} {pc : Nat} {L : List (Option Value)} {st rest As : List Value} {P1 : Option Value → Hp → Prop} {idx b ci N : Nat} {fs : List Value} {T : u_T} {Lc : List (Option Value)}
theorem VX.met {FIN : FinT} {Qc : Array Value → State → Outcome → State → Prop} {XC : String → State → State → Prop} (hY : Yok Y n) (hn : (lg_sl As).length ≤ Y.2.2.1) {l : Launch} (hl : l.stackTraces = false) {G : va_G} {aC : Nat → ClassId} {ws : va_W} (hC : Cov aC h ws)
    (hfin : ∀ below args s, FIN below args s G aC (va_A ws N0) = vx_MQ below Qc XC args s mc ms (va_A ws N0)) (hV : VX Y (rmO d mc ms) N0 κ noTB FIN 0 0 0 h 0 (padL Y.2.2.1 (entA As)) []) : vx_Met l Y.1 (wsY Y) (rmO d mc ms) (PcX κ aC G ws N0 As) Qc XC mc ms (va_A ws N0) := by
  refine vx_ofW (cc := Y.2.1) (maxL := Y.2.2.1) (ret := Y.2.2.2) hY.1 rfl ?_
  intro p e s m args below meth c s₁ B hml ht hv
  obtain ⟨rfl, hsz, hP, hK, hD0, hRO, hNW, hXK⟩ := hv
  have hts := atoms_spec (ws := wsY Y) B.pre
  have hown : s.vm.findClass Y.1.cls = some m.cls := findClass_of_methodNamed B.named
  have hin : meth.name = Y.1.name := (name_of_methodNamed B.named B.method).1
  rw [lg_entry_eq]
  have := hV p l e s m As.toArray below meth c G aC (va_A ws N0) s.heap [] _ ⟨B.exec, B.bytes, hml, hown, fun w hw => hts w (List.mem_cons_of_mem _ hw), B.returns, B.notSynchronized, hin, hNW⟩ hl ht hK hRO hXK (fun q hq => Or.inr (by omega)) hsz
    ⟨ws, hP, hD0.self, hC⟩ hsz va_S.rf (Lh.entry hn)
  rw [hfin] at this
  exact this
theorem VX.callV (hok : Yok Yc n) (hlk : Cond.methodLink Y.1.cls idx Yc.1 ∈ BG) (hin : Cond.instanceMethod Yc.1 ∈ BG) (hse : Cond.selects Yc.1.cls Yc.1 Yc.1 ∈ BG) (hdg : decode Y.2.1 pc = .ok (.invokevirtual idx, 3))
    (hc : vwCl[ci]? = some (Yc.1.cls, T, N)) (hb : h b = some (.inr (ci, fs))) (hst : st = As.reverse ++ .ref b :: rest) (hn : As.length = n) (hrm : (rest.map fun v => v.category).sum ≤ 8) (hd : d' + 1 ≤ d) (hm : ca ≤ mc ∧ sl ≤ ms)
    (hLc : padL Yc.2.2.1 (entA (.ref b :: As)) = Lc) (hle : (lg_sl (.ref b :: As)).length ≤ Yc.2.2.1)
    (hV : V Yc (d', 0, 0, N0 + gr, κ) 0 0 h 0 Lc [] P1)
    (kk : ∀ (v : Option Value) (h' : Hp), P1 v h' → VX Y (rmO d mc ms) N0 κ TB FIN gr ca sl h' (pc + 3) L (v.toList ++ rest)) : VX Y (rmO d mc ms) N0 κ TB FIN gr ca sl h pc L st := by
  subst hst
  subst hLc
  intro p l e s m args below meth c G aC A H locs ls hF hs hT hK hRO hXK hA hsz hR hz hS hL
  obtain ⟨ws, hP, hD, hC⟩ := hR
  obtain ⟨k, hk⟩ := hC.at hb
  obtain ⟨f1, f2, f3, f4, f5, f6, f7, f8, f9⟩ := id hF
  have hpr := V.pre (As := .ref b :: As) f9 hK hRO hA hsz hP hD hz hS
  have hr := va_runV (cells := ca) (slots := sl) (p := p) (e := e) (R := rmO d mc ms) (below := below) (meth := meth) (locs := locs) (rest := rest) (g := F0 m pc ls (As.reverse ++ .ref b :: rest)) (Ts := BG) ⟨f1, f2, f3, f4, f5⟩ (V.met hok hle hV l G aC ws hC)
    ⟨callB_of (ws' := BG) n f5 (wsY_good hok) rfl rfl rfl (f5 _ hok.2.2.2.2.2) (f5 _ hlk) ⟨hok.2.1.1, hok.2.1.2, hok.2.2.1⟩ (vrm hd hok.2.2.2.1), f5 _ hin, f5 _ hse⟩
    ⟨hpr.1, va_recv hK hP hc hk, hpr.2⟩ rfl hn (lh_size hL) rfl (lv_room hrm) hdg ⟨by show ca + 0 ≤ mc; omega, by show sl + 0 ≤ ms; omega⟩
  intro T2 hT2 X
  obtain ⟨v, st₀, t, T', L1, h0, X', hL1, e1, e2, ⟨⟨v', h', hv, hP1, hR, hszq⟩, hq, hkp⟩, stp⟩ := hr T2 hT2 X
  cases hv
  rw [h0] at hq hkp hszq
  have hB : ∀ q, va_A ws (N0 + gr) q → A q := vA_in hD hA (by omega)
  obtain ⟨t2, a1, b1⟩ := kk v h' hP1 p l e s m args below meth c G aC A T'.heap (locs ++ L1) ls hF hs hT hK hRO hXK hA hsz (by rw [e1]; exact hR.grow hB) (by rw [e1, hszq]; show H.size + 0 = N0 + gr; omega)
    ⟨Nat.le_trans hS.1 (by rw [e1]; exact hq), fun q h1 h2 => by
      rw [e1, hkp q (Nat.lt_of_lt_of_le h1 hS.1) (fun z => h2 (hB q z))]
      exact hS.2.1 q h1 h2, fun q hq => by
      rcases List.mem_append.mp hq with h | h
      · exact hS.2.2 q h
      · exact hB _ (hL1 q h)⟩ hL T' rfl X'
  exact ⟨t2, stp t2 a1, b1⟩
end VXcalls
/-- the class's man: it ends with E thrown, P of the heap holding -/
def finM (E : String) (P : Hp → Prop) : FinT := fun below args s G aC A => vx_MQ below (va_Qi (S := Unit) (fun _ _ => False) (fun _ _ => True) A) (vx_X P (fun E' h' t => E' = E ∧ Rp G aC A h' t.heap) A) args s 1 6 A
theorem VX.throw {Y : Yd} {N0 d : Nat} {κ : Kd} {E text : String} {P : Hp → Prop} {gr : Nat} {h : Hp} {pc : Nat} {L : List (Option Value)} {ik is ic ix : Nat} {rx : ByteArray} (hd : 6 ≤ d) (hcl : Y.1.cls = "BurntEnds") (x0 : decode rx 0 = .ok (.aload_n 0, 1)) (x1 : decode rx 1 = .ok (.aload_n 1, 1)) (x2 : decode rx 2 = .ok (.invokespecial ix, 3)) (x5 : decode rx 5 = .ok (.return_, 1))
    (hfit : Bundle.fit E = true) (hk : Cond.classLink "BurntEnds" ik E ∈ BG) (hini : Cond.initialized E ∈ BG) (hstr : ∀ (s : State) (A : Nat → Prop), RO κ A s s.heap → ∃ sa, vk_R "BurntEnds" is text sa s)
    (hgd : ∀ w ∈ ((xvAt "BurntEnds" ic E ix rx "java/lang/RuntimeException" ["java/lang/Exception"]).filter vx_no).filter goodWord, w ∈ BG) (hnx : ∀ w ∈ ((xvAt "BurntEnds" ic E ix rx "java/lang/RuntimeException" ["java/lang/Exception"]).filter vx_no).filter (fun w => !goodWord w), w ∈ NX)
    (hot : ∀ w ∈ Cond.classLink "BurntEnds" ik E :: Cond.initialized E :: (xvAt "BurntEnds" ic E ix rx "java/lang/RuntimeException" ["java/lang/Exception"]).filter vx_no, vx_ot w = true)
    (d0 : decode Y.2.1 pc = .ok (.new ik, 3)) (d3 : decode Y.2.1 (pc + 3) = .ok (.dup, 1)) (d4 : decode Y.2.1 (pc + 4) = .ok (.ldc is, 2)) (d6 : decode Y.2.1 (pc + 6) = .ok (.invokespecial ic, 3)) (d9 : decode Y.2.1 (pc + 9) = .ok (.athrow, 1)) (hP : P h) :
    VX Y (rmO d 1 6) N0 κ noTB (finM E P) gr 0 0 h pc L [] := by
  intro p l e s m args below meth c G aC A H locs ls hF hs hT hK hRO hXK hA hn hR hz hS hL
  obtain ⟨sa, hsa⟩ := hstr s A hRO
  have hr1 : 13 * (1 + 2) + 43 ≤ 41 * d := by omega
  refine xv_make (own := "BurntEnds") (cls := E) (Y9 := "java/lang/RuntimeException") (text := text) (names := ["java/lang/Exception"]) (ik := ik) (is := is) (ic := ic) (sa := sa) (ix := ix) (rx := rx) (A := A) hF.1 hF.2.1 hs x0 x1 x2 x5 (by have := hF.2.2.2.1; rw [hcl] at this; exact this) hfit (by decide +kernel) (fun n hn => by
      rw [List.mem_singleton] at hn
      subst hn
      decide +kernel) (hF.2.2.2.2.1 _ hk) (hF.2.2.2.2.1 _ hini) hsa (vx_hat (B := NX) (fun w hw => hF.2.2.2.2.1 _ (hgd w hw)) hnx (fun w hw => va_Nw.use (nx_tab w hw) (hXK.1 w hw))) hot hXK.2.2.1 hXK.2.2.2 hS ((lh_size hL).trans hF.2.2.1.symm) d0 d3 d4 d6 (show 1 + 4 < d by omega) (show 0 + (13 * (1 + 2) + 43) ≤ 41 * d by omega) (show 0 + 1 ≤ 1 by omega) (show 0 + 6 ≤ 6 by omega) (fun q ce H1 e1 e2 e3 z1 o1 hS1 => ?_)
  refine vx_athrow hF.1 hF.2.1 d9 ?_
  obtain ⟨ws, hPP, hD, hC⟩ := hR
  exact vx_out (fun x hx => (hT x hx).elim) hF.2.2.2.2.2.2.1 e1 e2 e3 (fun t ht _ => ⟨h, hP, ⟨rfl, by rw [ht]; exact ⟨ws, hPP.kept (fun j x hx => o1 x.1 (hPP j x hx).lt), hD, hC⟩⟩, hS1.F ht⟩) hS1.2.2 (Nat.le_refl _) (Nat.le_refl _)
