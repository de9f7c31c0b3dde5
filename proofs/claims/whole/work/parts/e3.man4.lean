/-! THE MAN, 4: the law's own man, that catches -/
abbrev ML : Yd := (yL_man, cL_man, 5, some .int)
abbrev lmH : List (Nat × Nat × Nat × Nat) := [(0, 10, 13, 13), (0, 10, 17, 15)]
def lmT : Code → Prop := fun c => c.exceptionTable.toList = tableOf lmH
def finL (P : Int32 → Hp → Prop) : FinT := fun below args s G aC A => vx_MQ below (va_Qi P (fun h' t => Rp G aC A h' t.heap) A) (vx_X (S := Unit) (fun _ => False) (fun _ _ _ => True) A) args s 1 6 A
theorem VX.iret {Y : Yd} {R : Room} {N0 : Nat} {κ : Kd} {TB : Code → Prop} {P : Int32 → Hp → Prop} {gr ca sl : Nat} {h : Hp} {pc : Nat} {L : List (Option Value)} {x : Int32} (hdg : decode Y.2.1 pc = .ok (.ireturn, 1)) (hrt : Y.2.2.2 = some .int) (hm : ca ≤ 1 ∧ sl ≤ 6) (hP : P x h) : VX Y R N0 κ TB (finL P) gr ca sl h pc L [.int x] := by
  intro p l e s m args below meth c G aC A H locs ls hF hs hT hK hRO hXK hA hn hR hz hS hL
  exact W.widen hm.1 hm.2 (vx_ret (W.iret hF.1 hF.2.1 (hF.2.2.2.2.2.1.trans hrt) (fun t ht hW => ⟨⟨_, h, rfl, hP, by show Rp G aC A h t.heap; rw [ht]; exact hR⟩, hS.F ht⟩) hS.2.2 hdg hF.2.2.2.2.2.2.1))
section LMan
variable {d d' N0 z : Nat} {κ : Kd} {h0 : Hp} {P : Int32 → Hp → Prop} {P1 : Hp → Prop} {fs : List Value} {h : Hp} {L : List (Option Value)} {rest : List Value} {x y : Int32} {E : String}
theorem lm_throw (hd : d' + 1 ≤ d) (hb : h z = some (.inr (11, fs))) (hrm : (rest.map fun v => v.category).sum ≤ 8)
    (hV : VX MX11_man (rmO d' 1 6) (N0 + 0) κ noTB (finM E P1) 0 0 0 h 0 [some (.ref z), some (.int x), some (.int y), none] [])
    (pre : List ExceptionTableEntry) (xt : ExceptionTableEntry) (suf : List ExceptionTableEntry) (hsplit : tableOf lmH = pre ++ xt :: suf)
    (hpass : ∀ zt ∈ pre, covers zt 5 = false ∨ (zt.catchType ≠ 0 ∧ ∃ nm : String, Cond.classLink RL zt.catchType nm ∈ BG ∧ ∀ (A : Nat → Prop) (s : State) (H : Heap), XK A s H → va_Nc E nm s)) (hx : covers xt 5 = true) (hx0 : xt.catchType ≠ 0) (hlink : Cond.classLink RL xt.catchType E ∈ BG) (hcast : Cond.castable E E ∈ NX)
    (kx : ∀ (gr' : Nat) (h' : Hp) (q : Nat), P1 h' → VX ML (rmO d 1 6) N0 κ lmT (finL P) gr' 1 6 h' xt.handlerPc L [.ref q]) :
    VX ML (rmO d 1 6) N0 κ lmT (finL P) 0 0 0 h 5 L (.int y :: .int x :: .ref z :: rest) := by
  intro p l e s m args below meth c G aC A H locs ls hF hs hT hK hRO hXK hA hsz hR hz hS hL
  obtain ⟨ws, hP, hD, hC⟩ := hR
  obtain ⟨k, hk⟩ := hC.at hb
  obtain ⟨f1, f2, f3, f4, f5, f6, f7, f8, f9⟩ := id hF
  have hpr := VX.pre (As := [.ref z, .int x, .int y]) f9 hK hRO hXK hA hsz hP hD hz hS
  have hok := yoX11_man
  have hB : ∀ q, va_A ws (N0 + 0) q → A q := vA_in hD hA (by omega)
  have hM : vx_Met l yX11_man (wsY MX11_man) (rmO d' 1 6) (PcX κ aC G ws (N0 + 0) [.ref z, .int x, .int y]) _ _ 1 6 (va_A ws (N0 + 0)) := VX.met (Y := MX11_man) (As := [.ref z, .int x, .int y]) hok (Nat.le_of_ble_eq_true rfl) hs hC (fun _ _ _ => rfl) hV
  have hr := vx_runV (cells := 0) (slots := 0) (p := p) (e := e) (R := rmO d 1 6) (below := below) (meth := meth) (locs := locs) (rest := rest) (g := F0 m 5 ls (.int y :: .int x :: .ref z :: rest)) (b := z) (As := [.int x, .int y]) (Ts := BG) (own := RL) (index := 7) (cc := cL_man) ⟨f1, f2, f3, f4, f5⟩ hM
    ⟨callB_of (ws' := BG) 2 f5 (wsY_good hok) rfl rfl rfl (f5 _ hok.2.2.2.2.2) (f5 _ ml_L_7) ⟨hok.2.1.1, hok.2.1.2, hok.2.2.1⟩ (vrm hd hok.2.2.2.1), f5 _ im_X11_man, f5 _ se_X11_man⟩
    ⟨hpr.1, va_recv hK hP okX11.1 hk, hpr.2⟩ rfl rfl (lh_size hL) rfl (lv_room hrm) dL_man_5 ⟨by show 0 + 1 ≤ 1; omega, by show 0 + 6 ≤ 6; omega⟩
  refine vx_calli hr hS (fun q _ hq => hB q hq) (fun q hq => hB q hq) (fun q _ hq => hB q hq) (fun E' ce q9 h' t H1 locs1 ht hvm hp hbx hsz1 hkp hS1 hcell hv hcl => ?_) (fun r u t H1 locs1 ht hvm hp => hp.elim)
  obtain ⟨rfl, hRp⟩ := hbx
  refine vx_catch f4 pre xt suf (hT.trans hsplit) (fun zt hzt => ?_) hx hx0 (f5 _ hlink) (va_Nw.use rfl (hXK.1 _ hcast)) hcell hv hcl ?_
  · rcases hpass zt hzt with q | ⟨q1, nm, q2, q3⟩
    · exact Or.inl q
    · exact Or.inr ⟨q1, nm, f5 _ q2, q3 A s s.heap hXK⟩
  · refine kx (H1.size - N0) h' q9 hp p l e s m args below meth c G aC A H1 locs1 ls hF hs hT hK hRO hXK hA hsz (by rw [← ht]; exact hRp.grow hB) (by omega) hS1 hL
end LMan
