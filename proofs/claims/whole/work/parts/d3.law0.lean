/-! THE LAW'S OWN WALK. LW: from here (heap h, gr cells made, at most ca cells and sl slots counted) the law comes to its end with true -/
def R_law : String := "BurntEndsLaw"
def lw_P (b : Addr) (xs : List Int32) (args : Array Value) (s : State) : Prop := args = #[.ref b] ∧ s.IntsAt b xs ∧ xs.length ≤ 3072 ∧ (Jvm.Cond.and given_1 narrow_1).before args s = true
def lw_Q (_ : Array Value) (s : State) (o : Outcome) (t : State) : Prop := o = .returned (some (.int 1)) ∧ Framed s o t [] 601024 7293034
def lw_Z (below : List Frame) (a : Array Value) (s : State) : State → Prop := fun t => ∃ o, t.status = .running ∧ Ended t below o ∧ lw_Q a s o t
/-- the law's own end, with 1 on the stack, nothing written that was there before, its room as the claim has it -/
theorem lw_ret {p : Program} {l : Launch} {e : Env} {s : State} {m : MethodId} {below : List Frame} {meth : Method} {c : Code} {b : Nat} (hx : p.tables.exec = Jvm.exec) (hb : c.code = code) (hr : meth.sig.returnType = ret) (hlocks : meth.locks = false) {pc : Nat} {H : Heap} {ls : Array Slot} (hdg : decode code pc = .ok (.ireturn, 1)) : W p l e room_1 s m #[Value.ref b] below meth c H [] 601024 7293034 (lw_Z below #[Value.ref b] s) (F0 m pc ls [.int 1]) := by
  intro T hT X
  obtain ⟨fs, hret, hrun, hended, hW, hframe⟩ := X.leave (v := some (.int 1)) (hlocks := hlocks) (fun h => by rw [hr] at h; cases h)
  have hmeth' : T.vm.method? m = some meth := X.method'
  refine ⟨T.setFrames fs, ?_, .returned (some (.int 1)), hrun, hended, rfl, ⟨_, rfl⟩, hW, hframe⟩
  jvm_step X.here [X.here.top, hx, hb, hdg, hmeth', hr, ret, narrow_b1]
  (try refine ⟨rfl, ?_⟩); (try refine ⟨rfl, ?_⟩)
  first | (intro acts; rw [hret _ acts rfl rfl rfl]) | rw [hret _ _ rfl rfl rfl]
  exact Steps.refl _
def lwA (N : Nat) : Nat → Prop := fun q => N ≤ q
def LFx (κ : Kd) (N b Ln : Nat) (xs : Nat → Int32) (p : Program) (l : Launch) (s : State) (m : MethodId) (meth : Method) (c : Code) : Prop :=
  p.tables.exec = Jvm.exec ∧ c.code = code ∧ c.maxLocals = 7 ∧ s.vm.findClass RL = some m.cls ∧ (∀ w ∈ BG, w.before #[Value.ref b] s = true) ∧ meth.sig.returnType = ret ∧ meth.locks = false ∧ (∀ w ∈ NW, va_Nw w s) ∧ s.heap.size = N ∧ RO κ (lwA N) s s.heap ∧ va_X b Ln xs s s.heap ∧ b < N ∧
  l.stackTraces = false ∧ (∀ w ∈ lw_tbl, w.before #[Value.ref b] s = true) ∧ vx_Zq Bundle.tN "UNASSIGNED_STACK" Bundle.steD (lwA N) s s.heap ∧ vx_Zq Bundle.tN "SUPPRESSED_SENTINEL" Bundle.listD (lwA N) s s.heap ∧ (Jvm.Cond.and given_1 narrow_1).before #[Value.ref b] s = true
def LW (κ : Kd) (N b Ln : Nat) (xs : Nat → Int32) (gr ca sl : Nat) (h : Hp) (pc : Nat) (L : List (Option Value)) (st : List Value) : Prop :=
  ∀ (p : Program) (l : Launch) (e : Env) (s : State) (m : MethodId) (below : List Frame) (meth : Method) (c : Code) (G : va_G) (aC : Nat → ClassId) (H : Heap) (locs : List Loc) (ls : Array Slot),
    LFx κ N b Ln xs p l s m meth c → va_K G vwCl (tysOf aC) s → Rp G aC (lwA N) h H → H.size = N + gr → va_S (lwA N) s.heap H locs → Lh ls 7 L →
    W p l e room_1 s m #[Value.ref b] below meth c H locs ca sl (lw_Z below #[Value.ref b] s) (F0 m pc ls st)
section LRows
variable {κ : Kd} {N b Ln : Nat} {xs : Nat → Int32} {gr ca sl : Nat} {h : Hp} {pc : Nat} {L : List (Option Value)} {rest : List Value}
theorem LW.weak (L' : List (Option Value)) {st : List Value} (hl : leL L' L) (k : LW κ N b Ln xs gr ca sl h pc L' st) : LW κ N b Ln xs gr ca sl h pc L st := by
  intro p l e s m below meth c G aC H locs ls hF hK hR hz hS hL
  obtain ⟨lv, a1, a2⟩ := hL
  exact k p l e s m below meth c G aC H locs ls hF hK hR hz hS ⟨lv, a1, fun i v hi => a2 i v (leL_s L' L hl i v hi)⟩
theorem LW.widen {st : List Value} {ca' sl' : Nat} (h1 : ca ≤ ca') (h2 : sl ≤ sl') (k : LW κ N b Ln xs gr ca' sl' h pc L st) : LW κ N b Ln xs gr ca sl h pc L st := by
  intro p l e s m below meth c G aC H locs ls hF hK hR hz hS hL
  exact W.widen h1 h2 (k p l e s m below meth c G aC H locs ls hF hK hR hz hS hL)
theorem LW.end (hc : ca ≤ 601024) (hs : sl ≤ 7293034) (hdg : decode code pc = .ok (.ireturn, 1)) : LW κ N b Ln xs gr ca sl h pc L [.int 1] := by
  intro p l e s m below meth c G aC H locs ls hF hK hR hz hS hL
  refine va_forget (fun q hq => by rw [hF.2.2.2.2.2.2.2.2.1]; exact hS.2.2 q hq) ?_
  exact W.widen hc hs (lw_ret hF.1 hF.2.1 hF.2.2.2.2.2.1 hF.2.2.2.2.2.2.1 hdg)
theorem LW.sld {j : Nat} {x : Int32} (hx : x = nI j) (hj : j < Ln) (hLn : Ln < 2147483648) (hdg : decode code pc = .ok (.iaload, 1)) (k : LW κ N b Ln xs gr ca sl h (pc + 1) L (.int (xs j) :: rest)) : LW κ N b Ln xs gr ca sl h pc L (.int x :: .ref b :: rest) := by
  intro p l e s m below meth c G aC H locs ls hF hK hR hz hS hL
  subst hx
  refine va_sld hF.1 hF.2.1 hF.2.2.2.2.2.2.2.2.2.2.1 (by rw [hF.2.2.2.2.2.2.2.2.1]; exact hF.2.2.2.2.2.2.2.2.2.2.2.1) (Nat.not_le.mpr hF.2.2.2.2.2.2.2.2.2.2.2.1) hS (vp_in_nI hj hLn) hdg ?_
  rw [nI_clamp (Nat.lt_trans hj hLn)]
  exact k p l e s m below meth c G aC H locs ls hF hK hR hz hS hL
theorem LW.slen (hdg : decode code pc = .ok (.arraylength, 1)) (k : LW κ N b Ln xs gr ca sl h (pc + 1) L (.int (Int32.ofNat Ln) :: rest)) : LW κ N b Ln xs gr ca sl h pc L (.ref b :: rest) := by
  intro p l e s m below meth c G aC H locs ls hF hK hR hz hS hL
  exact va_slen hF.1 hF.2.1 hF.2.2.2.2.2.2.2.2.2.2.1 (by rw [hF.2.2.2.2.2.2.2.2.1]; exact hF.2.2.2.2.2.2.2.2.2.2.2.1) (Nat.not_le.mpr hF.2.2.2.2.2.2.2.2.2.2.2.1) hS hdg (k p l e s m below meth c G aC H locs ls hF hK hR hz hS hL)
theorem LW.iconst {n : Int} {v : Int32} (hdg : decode code pc = .ok (.iconst n, 1)) (hv : Int32.ofInt n = v) (k : LW κ N b Ln xs gr ca sl h (pc + 1) L (.int v :: rest)) : LW κ N b Ln xs gr ca sl h pc L (rest) := by
  intro p l e s m below meth c G aC H locs ls hF hK hR hz hS hL
  exact lv_iconst hF.1 hF.2.1 hdg hv (k p l e s m below meth c G aC H locs ls hF hK hR hz hS hL)
theorem LW.bipush {n : Int} {v : Int32} (hdg : decode code pc = .ok (.bipush n, 2)) (hv : (Int8.ofInt n).toInt32 = v) (k : LW κ N b Ln xs gr ca sl h (pc + 2) L (.int v :: rest)) : LW κ N b Ln xs gr ca sl h pc L (rest) := by
  intro p l e s m below meth c G aC H locs ls hF hK hR hz hS hL
  exact lv_bipush hF.1 hF.2.1 hdg hv (k p l e s m below meth c G aC H locs ls hF hK hR hz hS hL)
theorem LW.iload_n {j : Fin 4} {x : Int32} (hdg : decode code pc = .ok (.iload_n j, 1)) (hx : L[(j : Nat)]? = some (some (.int x))) (k : LW κ N b Ln xs gr ca sl h (pc + 1) L (.int x :: rest)) : LW κ N b Ln xs gr ca sl h pc L (rest) := by
  intro p l e s m below meth c G aC H locs ls hF hK hR hz hS hL
  exact lv_iload_n hF.1 hF.2.1 hdg rfl (hL.at hx) (k p l e s m below meth c G aC H locs ls hF hK hR hz hS hL)
theorem LW.iload {j : Nat} {x : Int32} (hdg : decode code pc = .ok (.iload j, 2)) (hx : L[j]? = some (some (.int x))) (k : LW κ N b Ln xs gr ca sl h (pc + 2) L (.int x :: rest)) : LW κ N b Ln xs gr ca sl h pc L (rest) := by
  intro p l e s m below meth c G aC H locs ls hF hK hR hz hS hL
  exact lv_iload hF.1 hF.2.1 hdg (hL.at hx) (k p l e s m below meth c G aC H locs ls hF hK hR hz hS hL)
theorem LW.aload_n {j : Fin 4} {x : Nat} (hdg : decode code pc = .ok (.aload_n j, 1)) (hx : L[(j : Nat)]? = some (some (.ref x))) (k : LW κ N b Ln xs gr ca sl h (pc + 1) L (.ref x :: rest)) : LW κ N b Ln xs gr ca sl h pc L (rest) := by
  intro p l e s m below meth c G aC H locs ls hF hK hR hz hS hL
  exact lv_aload_n hF.1 hF.2.1 hdg rfl (hL.at hx) (k p l e s m below meth c G aC H locs ls hF hK hR hz hS hL)
theorem LW.aload {j : Nat} {x : Nat} (hdg : decode code pc = .ok (.aload j, 2)) (hx : L[j]? = some (some (.ref x))) (k : LW κ N b Ln xs gr ca sl h (pc + 2) L (.ref x :: rest)) : LW κ N b Ln xs gr ca sl h pc L (rest) := by
  intro p l e s m below meth c G aC H locs ls hF hK hR hz hS hL
  exact lv_aload hF.1 hF.2.1 hdg (hL.at hx) (k p l e s m below meth c G aC H locs ls hF hK hR hz hS hL)
theorem LW.istore_n {j : Fin 4} {x : Int32} {L2 : List (Option Value)} (hdg : decode code pc = .ok (.istore_n j, 1)) (hj : (j : Nat) < 7) (hL2 : sto1 (j : Nat) (.int x) L = L2) (k : LW κ N b Ln xs gr ca sl h (pc + 1) L2 rest) : LW κ N b Ln xs gr ca sl h pc L (.int x :: rest) := by
  intro p l e s m below meth c G aC H locs ls hF hK hR hz hS hL
  subst hL2
  obtain ⟨lv, a1, a2⟩ := hL
  exact lv_istore_n hF.1 hF.2.1 hdg rfl a1 hj rfl (fun ls2 h2 => k p l e s m below meth c G aC H locs ls2 hF hK hR hz hS (Lh.sto1 a2 h2))
theorem LW.istore {j : Nat} {x : Int32} {L2 : List (Option Value)} (hdg : decode code pc = .ok (.istore j, 2)) (hj : j < 7) (hL2 : sto1 j (.int x) L = L2) (k : LW κ N b Ln xs gr ca sl h (pc + 2) L2 rest) : LW κ N b Ln xs gr ca sl h pc L (.int x :: rest) := by
  intro p l e s m below meth c G aC H locs ls hF hK hR hz hS hL
  subst hL2
  obtain ⟨lv, a1, a2⟩ := hL
  exact lv_istore hF.1 hF.2.1 hdg a1 hj rfl (fun ls2 h2 => k p l e s m below meth c G aC H locs ls2 hF hK hR hz hS (Lh.sto1 a2 h2))
theorem LW.astore_n {j : Fin 4} {x : Nat} {L2 : List (Option Value)} (hdg : decode code pc = .ok (.astore_n j, 1)) (hj : (j : Nat) < 7) (hL2 : sto1 (j : Nat) (.ref x) L = L2) (k : LW κ N b Ln xs gr ca sl h (pc + 1) L2 rest) : LW κ N b Ln xs gr ca sl h pc L (.ref x :: rest) := by
  intro p l e s m below meth c G aC H locs ls hF hK hR hz hS hL
  subst hL2
  obtain ⟨lv, a1, a2⟩ := hL
  exact lv_astore_n hF.1 hF.2.1 hdg rfl a1 hj rfl (fun ls2 h2 => k p l e s m below meth c G aC H locs ls2 hF hK hR hz hS (Lh.sto1 a2 h2))
theorem LW.astore {j : Nat} {x : Nat} {L2 : List (Option Value)} (hdg : decode code pc = .ok (.astore j, 2)) (hj : j < 7) (hL2 : sto1 j (.ref x) L = L2) (k : LW κ N b Ln xs gr ca sl h (pc + 2) L2 rest) : LW κ N b Ln xs gr ca sl h pc L (.ref x :: rest) := by
  intro p l e s m below meth c G aC H locs ls hF hK hR hz hS hL
  subst hL2
  obtain ⟨lv, a1, a2⟩ := hL
  exact lv_astore hF.1 hF.2.1 hdg a1 hj rfl (fun ls2 h2 => k p l e s m below meth c G aC H locs ls2 hF hK hR hz hS (Lh.sto1 a2 h2))
theorem LW.iadd {x y : Int32} (hdg : decode code pc = .ok (.iadd, 1)) (k : LW κ N b Ln xs gr ca sl h (pc + 1) L (.int (x + y) :: rest)) : LW κ N b Ln xs gr ca sl h pc L (.int y :: .int x :: rest) := by
  intro p l e s m below meth c G aC H locs ls hF hK hR hz hS hL
  exact lv_iadd hF.1 hF.2.1 hdg (k p l e s m below meth c G aC H locs ls hF hK hR hz hS hL)
theorem LW.isub {x y : Int32} (hdg : decode code pc = .ok (.isub, 1)) (k : LW κ N b Ln xs gr ca sl h (pc + 1) L (.int (x - y) :: rest)) : LW κ N b Ln xs gr ca sl h pc L (.int y :: .int x :: rest) := by
  intro p l e s m below meth c G aC H locs ls hF hK hR hz hS hL
  exact lv_isub hF.1 hF.2.1 hdg (k p l e s m below meth c G aC H locs ls hF hK hR hz hS hL)
theorem LW.iand {x y : Int32} (hdg : decode code pc = .ok (.iand, 1)) (k : LW κ N b Ln xs gr ca sl h (pc + 1) L (.int (x &&& y) :: rest)) : LW κ N b Ln xs gr ca sl h pc L (.int y :: .int x :: rest) := by
  intro p l e s m below meth c G aC H locs ls hF hK hR hz hS hL
  exact lv_iand hF.1 hF.2.1 hdg (k p l e s m below meth c G aC H locs ls hF hK hR hz hS hL)
theorem LW.i2l {x : Int32} (hdg : decode code pc = .ok (.i2l, 1)) (k : LW κ N b Ln xs gr ca sl h (pc + 1) L (.long x.toInt64 :: rest)) : LW κ N b Ln xs gr ca sl h pc L (.int x :: rest) := by
  intro p l e s m below meth c G aC H locs ls hF hK hR hz hS hL
  exact lv_i2l hF.1 hF.2.1 hdg rfl (k p l e s m below meth c G aC H locs ls hF hK hR hz hS hL)
theorem LW.lcmp {x y : Int64} (hdg : decode code pc = .ok (.lcmp, 1)) (k : LW κ N b Ln xs gr ca sl h (pc + 1) L (.int (lg_cmp x y) :: rest)) : LW κ N b Ln xs gr ca sl h pc L (.long y :: .long x :: rest) := by
  intro p l e s m below meth c G aC H locs ls hF hK hR hz hS hL
  exact W.lcmp hF.1 hF.2.1 hdg (k p l e s m below meth c G aC H locs ls hF hK hR hz hS hL)
theorem LW.dup {va : Value} (hdg : decode code pc = .ok (.dup, 1)) (hva : va.category = 1) (k : LW κ N b Ln xs gr ca sl h (pc + 1) L (va :: va :: rest)) : LW κ N b Ln xs gr ca sl h pc L (va :: rest) := by
  intro p l e s m below meth c G aC H locs ls hF hK hR hz hS hL
  exact lv_dup hF.1 hF.2.1 hdg hva (k p l e s m below meth c G aC H locs ls hF hK hR hz hS hL)
theorem LW.if_eq {x : Int32} {off : Int} (tgt : Nat) (hdg : decode code pc = .ok (.ifCond .eq off, 3)) (ht : (pc : Int) + off = (tgt : Int)) (kt : x = 0 → LW κ N b Ln xs gr ca sl h tgt L rest) (kf : ¬ (x = 0) → LW κ N b Ln xs gr ca sl h (pc + 3) L rest) : LW κ N b Ln xs gr ca sl h pc L (.int x :: rest) := by
  intro p l e s m below meth c G aC H locs ls hF hK hR hz hS hL
  exact lv_if_eq hF.1 hF.2.1 hdg ht (fun q => kt q p l e s m below meth c G aC H locs ls hF hK hR hz hS hL) (fun q => kf q p l e s m below meth c G aC H locs ls hF hK hR hz hS hL)
theorem LW.if_ne {x : Int32} {off : Int} (tgt : Nat) (hdg : decode code pc = .ok (.ifCond .ne off, 3)) (ht : (pc : Int) + off = (tgt : Int)) (kt : ¬ x = 0 → LW κ N b Ln xs gr ca sl h tgt L rest) (kf : x = 0 → LW κ N b Ln xs gr ca sl h (pc + 3) L rest) : LW κ N b Ln xs gr ca sl h pc L (.int x :: rest) := by
  intro p l e s m below meth c G aC H locs ls hF hK hR hz hS hL
  exact lv_if_ne hF.1 hF.2.1 hdg ht (fun q => kt q p l e s m below meth c G aC H locs ls hF hK hR hz hS hL) (fun q => kf q p l e s m below meth c G aC H locs ls hF hK hR hz hS hL)
theorem LW.icmp_eq {x y : Int32} {off : Int} (tgt : Nat) (hdg : decode code pc = .ok (.if_icmp .eq off, 3)) (ht : (pc : Int) + off = (tgt : Int)) (kt : x = y → LW κ N b Ln xs gr ca sl h tgt L rest) (kf : ¬ (x = y) → LW κ N b Ln xs gr ca sl h (pc + 3) L rest) : LW κ N b Ln xs gr ca sl h pc L (.int y :: .int x :: rest) := by
  intro p l e s m below meth c G aC H locs ls hF hK hR hz hS hL
  exact lv_icmp_eq hF.1 hF.2.1 hdg ht (fun q => kt q p l e s m below meth c G aC H locs ls hF hK hR hz hS hL) (fun q => kf q p l e s m below meth c G aC H locs ls hF hK hR hz hS hL)
theorem LW.icmp_gt {x y : Int32} {off : Int} (tgt : Nat) (hdg : decode code pc = .ok (.if_icmp .gt off, 3)) (ht : (pc : Int) + off = (tgt : Int)) (kt : y < x → LW κ N b Ln xs gr ca sl h tgt L rest) (kf : ¬ (y < x) → LW κ N b Ln xs gr ca sl h (pc + 3) L rest) : LW κ N b Ln xs gr ca sl h pc L (.int y :: .int x :: rest) := by
  intro p l e s m below meth c G aC H locs ls hF hK hR hz hS hL
  exact lv_icmp_gt hF.1 hF.2.1 hdg ht (fun q => kt q p l e s m below meth c G aC H locs ls hF hK hR hz hS hL) (fun q => kf q p l e s m below meth c G aC H locs ls hF hK hR hz hS hL)
theorem LW.goto {off : Int} (tgt : Nat) (hdg : decode code pc = .ok (.goto off, 3)) (ht : (pc : Int) + off = (tgt : Int)) (k : LW κ N b Ln xs gr ca sl h tgt L rest) : LW κ N b Ln xs gr ca sl h pc L rest := by
  intro p l e s m below meth c G aC H locs ls hF hK hR hz hS hL
  exact lv_goto hF.1 hF.2.1 hdg ht (k p l e s m below meth c G aC H locs ls hF hK hR hz hS hL)
theorem LW.iinc {j : Nat} {n : Int} {x v : Int32} {L2 : List (Option Value)} (hdg : decode code pc = .ok (.iinc j n, 3)) (hx : L[j]? = some (some (.int x))) (hv : Int32.ofInt n = v) (hj : j < 7) (hL2 : sto1 j (.int (x + v)) L = L2) (k : LW κ N b Ln xs gr ca sl h (pc + 3) L2 rest) : LW κ N b Ln xs gr ca sl h pc L rest := by
  intro p l e s m below meth c G aC H locs ls hF hK hR hz hS hL
  subst hL2
  subst hv
  obtain ⟨lv, a1, a2⟩ := hL
  obtain ⟨q, hq⟩ := List.getElem?_of_mem (a2 j _ hx)
  exact lv_iinc hF.1 hF.2.1 hdg a1 hq rfl hj rfl (fun ls2 h2 => k p l e s m below meth c G aC H locs ls2 hF hK hR hz hS (Lh.sto1 a2 h2))
theorem LW.lald {a n : Nat} {f : Nat → Int64} {i : Int32} (hdg : decode code pc = .ok (.laload, 1)) (ha : h a = some (.inl (1, n, .inr (.inl f)))) (hin : vp_in i n) (k : LW κ N b Ln xs gr ca sl h (pc + 1) L (.long (f i.toNatClampNeg) :: rest)) : LW κ N b Ln xs gr ca sl h pc L (.int i :: .ref a :: rest) := by
  intro p l e s m below meth c G aC H locs ls hF hK hR hz hS hL
  obtain ⟨ws, hP, hD, hC⟩ := id hR
  obtain ⟨q, hq⟩ := hC.at ha
  exact va_lald hF.1 hF.2.1 hK hP q 1 hq rfl hin hdg (k p l e s m below meth c G aC H locs ls hF hK hR hz hS hL)
theorem LW.laldN {a n j : Nat} {f : Nat → Int64} {x : Int32} (hdg : decode code pc = .ok (.laload, 1)) (ha : h a = some (.inl (1, n, .inr (.inl f)))) (hx : x = nI j) (hj : j < n) (hn : n < 2147483648) (k : LW κ N b Ln xs gr ca sl h (pc + 1) L (.long (f j) :: rest)) : LW κ N b Ln xs gr ca sl h pc L (.int x :: .ref a :: rest) := by
  subst hx
  refine LW.lald hdg ha (vp_in_nI hj hn) ?_
  rw [nI_clamp (Nat.lt_trans hj hn)]
  exact k
theorem LW.tswG {dflt lo hi : Int} {offs : Array Int} {len : Nat} {x : Int32} (ts : List (Int32 × Nat)) (td : Nat) (hdg : decode code pc = .ok (.tableswitch dflt lo hi offs, len)) (htd : (pc : Int) + dflt = (td : Int)) (hok : tsOk pc lo hi offs td ts = true)
    (kin : ∀ q ∈ ts, x = q.1 → LW κ N b Ln xs gr ca sl h q.2 L rest) (kout : (∀ q ∈ ts, ¬ x = q.1) → LW κ N b Ln xs gr ca sl h td L rest) : LW κ N b Ln xs gr ca sl h pc L (.int x :: rest) := by
  intro p l e s m below meth c G aC H locs ls hF hK hR hz hS hL
  unfold tsOk at hok
  simp only [Bool.and_eq_true, decide_eq_true_eq, List.all_eq_true, List.mem_range] at hok
  obtain ⟨⟨h1, h2⟩, h3⟩ := hok
  have hin : ∀ q ∈ ts, lo ≤ q.1.toInt ∧ q.1.toInt ≤ hi := fun q hq => by
    obtain ⟨a1, a2⟩ := h2 q hq
    refine ⟨a1, ?_⟩
    cases ho : offs[(q.1.toInt - lo).toNat]? with
    | none => rw [ho] at a2; cases a2
    | some off =>
      have := (Array.getElem?_eq_some_iff.mp ho).1
      omega
  rcases Classical.em (x.toInt < lo ∨ hi < x.toInt) with hq | hq
  · exact lv_tableOut hF.1 hF.2.1 hdg hq htd (kout (fun q hq2 hx => by
      have := hin q hq2
      rw [hx] at hq
      omega) p l e s m below meth c G aC H locs ls hF hK hR hz hS hL)
  · have q1 : ¬ x.toInt < lo := fun z => hq (Or.inl z)
    have q2 : ¬ hi < x.toInt := fun z => hq (Or.inr z)
    have hj : (x.toInt - lo).toNat < offs.size := by omega
    have ho : offs[(x.toInt - lo).toNat]? = some offs[(x.toInt - lo).toNat] := Array.getElem?_eq_getElem hj
    rcases Classical.em (∃ q ∈ ts, x = q.1) with ⟨q, hq3, hx⟩ | hx
    · have b := (h2 q hq3).2
      rw [← hx, ho] at b
      simp only [decide_eq_true_eq] at b
      exact lv_tableIn hF.1 hF.2.1 hdg q1 q2 ho b (kin q hq3 hx p l e s m below meth c G aC H locs ls hF hK hR hz hS hL)
    · have a := h3 _ hj
      rw [ho] at a
      simp only [Bool.or_eq_true, decide_eq_true_eq, List.any_eq_true] at a
      rcases a with a | ⟨q, hq3, a⟩
      · exact lv_tableIn hF.1 hF.2.1 hdg q1 q2 ho a (kout (fun q hq3 hx2 => hx ⟨q, hq3, hx2⟩) p l e s m below meth c G aC H locs ls hF hK hR hz hS hL)
      · exact absurd ⟨q, hq3, Int32.toInt_inj.mp (by omega)⟩ hx
theorem LW.newJ {n : Int32} {M : Nat} (harr : Cond.arrayClass .long ∈ BG) (hdg : decode code pc = .ok (.newarray .long, 2)) (hn1 : ¬ n < 0) (hN : n.toNatClampNeg = M) (hby : M * 8 ≤ 536870912) (hm : ca + 1 ≤ 601024 ∧ sl + M ≤ 7293034)
    (k : LW κ N b Ln xs (gr + 1) (ca + 1) (sl + M) (up h (N + gr) (.inl (1, M, .inr (.inl (fun _ => 0))))) (pc + 2) L (.ref (N + gr) :: rest)) : LW κ N b Ln xs gr ca sl h pc L (.int n :: rest) := by
  intro p l e s m below meth c G aC H locs ls hF hK hR hz hS hL
  obtain ⟨ws, hP, hD, hC⟩ := hR
  refine va_newaK (atype := .long) (N := M) hF.1 hF.2.1 (hF.2.2.2.2.1 _ harr) rfl hdg rfl hn1 hN (by show M * _ ≤ _; simp only [newarray.typeOf, componentBytes]; omega) hm.1 hm.2 hz (fun H1 cA e1 z1 o1 hAr hNm => ?_)
  have hcA : cA = aC 1 := Option.some.inj (hNm.symm.trans (hK.2 1 _ rfl).2)
  subst hcA
  have o1 : ∀ q, q < H.size → H1[q]? = H[q]? := fun q hq => o1 q (by rw [← hz]; exact hq)
  have hk : ∀ (j : Nat) (x : Nat × va_E), ws[j]? = some x → H1[x.1]? = H[x.1]? := fun j x hx => o1 x.1 ((hP j x hx).lt)
  refine k p l e s m below meth c G aC H1 locs ls hF hK ⟨ws ++ [(N + gr, co aC (.inl (1, M, .inr (.inl (fun _ => 0)))))], (hP.kept hk).app (fun j x hx => ?_), hD.push hP hz.symm (Nat.le_add_right N gr), hC.push⟩ (by rw [z1]; show N + gr + 1 = N + (gr + 1); omega) ⟨Nat.le_trans hS.1 (by rw [z1, hz]; exact Nat.le_succ _), fun x h1 h2 => (o1 x (Nat.lt_of_lt_of_le h1 hS.1)).trans (hS.2.1 x h1 h2), hS.2.2⟩ hL
  have hj : j < 1 := (List.getElem?_eq_some_iff.mp hx).1
  rw [show j = 0 by omega] at hx
  cases hx
  exact e1
theorem LW.new {ci : Nat} {C : String} {T : u_T} {NF : Nat} {ty : Nat → FieldType} (ok : Cok ci C T NF ty) {idx : Nat} {fs : List Value} (hlk : Cond.classLink RL idx C ∈ BG) (hins : Cond.instantiable C NF ∈ BG) (hini : Cond.initialized C ∈ BG) (hdg : decode code pc = .ok (.new idx, 3)) (hfs : ∀ j, j < NF → defaultValue (ty j) = vp_V fs j) (hm : ca + 1 ≤ 601024 ∧ sl + NF ≤ 7293034)
    (k : LW κ N b Ln xs (gr + 1) (ca + 1) (sl + NF) (up h (N + gr) (.inr (ci, fs))) (pc + 3) L (.ref (N + gr) :: rest)) : LW κ N b Ln xs gr ca sl h pc L rest := by
  intro p l e s m below meth c G aC H locs ls hF hK hR hz hS hL
  obtain ⟨ws, hP, hD, hC⟩ := hR
  have hKn := hK.1 ci _ ok.1
  refine W.newcK hF.1 hF.2.1 hF.2.2.2.1 (hF.2.2.2.2.1 _ hlk) (hF.2.2.2.2.1 _ hins) (hF.2.2.2.2.1 _ hini) rfl hdg hm.1 hm.2 hKn.2.1 hz (fun H1 kC hkC e1 z1 o1 => ?_)
  have o1 : ∀ q, q < H.size → H1[q]? = H[q]? := fun q hq => o1 q (by rw [← hz]; exact hq)
  have hk : ∀ (j : Nat) (x : Nat × va_E), ws[j]? = some x → H1[x.1]? = H[x.1]? := fun j x hx => o1 x.1 ((hP j x hx).lt)
  refine k p l e s m below meth c G aC H1 locs ls hF hK ⟨ws ++ [(N + gr, co aC (.inr (ci, fs)))], (hP.kept hk).app (fun j x hx => ?_), hD.push hP hz.symm (Nat.le_add_right N gr), hC.push⟩ (by rw [z1]; show N + gr + 1 = N + (gr + 1); omega) ⟨Nat.le_trans hS.1 (by rw [z1, hz]; exact Nat.le_succ _), fun x h1 h2 => (o1 x (Nat.lt_of_lt_of_le h1 hS.1)).trans (hS.2.1 x h1 h2), hS.2.2⟩ hL
  have hj : j < 1 := (List.getElem?_eq_some_iff.mp hx).1
  rw [show j = 0 by omega] at hx
  cases hx
  exact ⟨_, ok.1, (u_born ty hF.2.2.2.2.1 ok.2.1 hKn hkC e1 ok.2.2.1).to hfs⟩
/-- behind a call -/
theorem LW.after {mc' ms' : Nat} {st0 : List Value} {P1 : Option Value → Hp → Prop}
    (kk : ∀ (v : Option Value) (h' : Hp), P1 v h' → LW κ N b Ln xs (gr + mc') (ca + mc') (sl + ms') h' (pc + 3) L (v.toList ++ rest))
    {p : Program} {l : Launch} {e : Env} {s : State} {m : MethodId} {a : Array Value} {below : List Frame} {meth : Method} {c : Code} {G : va_G} {aC : Nat → ClassId} {H : Heap} {locs : List Loc} {ls : Array Slot} {ws : va_W}
    (hF : LFx κ N b Ln xs p l s m meth c) (hK : va_K G vwCl (tysOf aC) s) (hD : va_D (lwA N) ws) (hz : H.size = N + gr) (hS : va_S (lwA N) s.heap H locs) (hL : Lh ls 7 L)
    (hr : va_Run p l e room_1 s m #[Value.ref b] below meth c H locs ca sl mc' ms' (F0 m pc ls st0) rest (Qp G aC (va_A ws (N + gr)) mc' P1 a) (va_A ws (N + gr))) :
    W p l e room_1 s m #[Value.ref b] below meth c H locs ca sl (lw_Z below #[Value.ref b] s) (F0 m pc ls st0) := by
  intro T hT X
  obtain ⟨v, st₀, t, T', L1, h0, X', hL1, e1, e2, ⟨⟨v', h', hv, hP1, hR, hsz⟩, hq, hk⟩, st⟩ := hr T hT X
  cases hv
  rw [h0] at hq hk hsz
  have hB : ∀ q, va_A ws (N + gr) q → lwA N q := vA_in hD (n0 := N) (fun q hq => hq) (by omega)
  obtain ⟨t2, a1, b1⟩ := kk v h' hP1 p l e s m below meth c G aC T'.heap (locs ++ L1) ls hF hK (by rw [e1]; exact hR.grow hB) (by rw [e1, hsz]; show H.size + mc' = N + (gr + mc'); omega)
    ⟨Nat.le_trans hS.1 (by rw [e1]; exact hq), fun q h1 h2 => by
      rw [e1, hk q (Nat.lt_of_lt_of_le h1 hS.1) (fun z => h2 (hB q z))]
      exact hS.2.1 q h1 h2, fun q hq => by
      rcases List.mem_append.mp hq with h | h
      · exact hS.2.2 q h
      · exact hB _ (hL1 q h)⟩ hL T' rfl X'
  exact ⟨t2, st t2 a1, b1⟩
theorem lw_vrm {d' maxL mc' ms' : Nat} (hd : d' ≤ 2000) (hm : maxL ≤ 22) : (rmO d' mc' ms').frames + 1 ≤ room_1.frames ∧ 8 + (maxL + 11) + (rmO d' mc' ms').locals ≤ room_1.locals := by
  refine ⟨by show d' + 1 ≤ 2048; omega, ?_⟩
  show 8 + (maxL + 11) + 41 * d' ≤ 84000
  omega
theorem LW.callV {Yc : Yd} {n d' mc' ms' idx q ci NF : Nat} {T : u_T} {fs As : List Value} {Lc : List (Option Value)} {P1 : Option Value → Hp → Prop} {st : List Value} (hok : Yok Yc n) (hlk : Cond.methodLink RL idx Yc.1 ∈ BG) (hin : Cond.instanceMethod Yc.1 ∈ BG) (hse : Cond.selects Yc.1.cls Yc.1 Yc.1 ∈ BG) (hdg : decode code pc = .ok (.invokevirtual idx, 3))
    (hc : vwCl[ci]? = some (Yc.1.cls, T, NF)) (hb : h q = some (.inr (ci, fs))) (hst : st = As.reverse ++ .ref q :: rest) (hn : As.length = n) (hrm : (rest.map fun v => v.category).sum ≤ 8) (hd : d' ≤ 2000) (hm : ca + mc' ≤ 601024 ∧ sl + ms' ≤ 7293034)
    (hLc : padL Yc.2.2.1 (entA (.ref q :: As)) = Lc) (hle : (lg_sl (.ref q :: As)).length ≤ Yc.2.2.1)
    (hV : V Yc (d', mc', ms', N + gr, κ) 0 0 h 0 Lc [] P1)
    (kk : ∀ (v : Option Value) (h' : Hp), P1 v h' → LW κ N b Ln xs (gr + mc') (ca + mc') (sl + ms') h' (pc + 3) L (v.toList ++ rest)) : LW κ N b Ln xs gr ca sl h pc L st := by
  subst hst
  subst hLc
  intro p l e s m below meth c G aC H locs ls hF hK hR hz hS hL
  obtain ⟨ws, hP, hD, hC⟩ := hR
  obtain ⟨k, hk⟩ := hC.at hb
  obtain ⟨f1, f2, f3, f4, f5, f6, f7, f9, f10, f11, f12⟩ := id hF
  have hpr := V.pre (As := .ref q :: As) f9 hK f11 (fun q hq => by rw [f10] at hq; exact hq) f10 hP hD hz hS
  exact LW.after kk hF hK hD hz hS hL (va_runV (Ts := BG) ⟨f1, f2, f3, f4, f5⟩ (V.met hok hle hV l G aC ws hC)
    ⟨callB_of (ws' := BG) n f5 (wsY_good hok) rfl rfl rfl (f5 _ hok.2.2.2.2.2) (f5 _ hlk) ⟨hok.2.1.1, hok.2.1.2, hok.2.2.1⟩ (lw_vrm hd hok.2.2.2.1), f5 _ hin, f5 _ hse⟩
    ⟨hpr.1, va_recv hK hP hc hk, hpr.2⟩ rfl hn (lh_size hL) rfl (lv_room hrm) hdg hm)
theorem LW.callI {Yc : Yd} {n d' mc' ms' idx q : Nat} {As : List Value} {Lc : List (Option Value)} {P1 : Option Value → Hp → Prop} {st : List Value} (hok : Yok Yc n) (hnm : Yc.1.name = "<init>") (hret : Yc.2.2.2 = none) (hlk : Cond.methodLink RL idx Yc.1 ∈ BG) (hin : Cond.instanceMethod Yc.1 ∈ BG) (hdg : decode code pc = .ok (.invokespecial idx, 3))
    (hst : st = As.reverse ++ .ref q :: rest) (hn : As.length = n) (hrm : (rest.map fun v => v.category).sum ≤ 8) (hd : d' ≤ 2000) (hm : ca + mc' ≤ 601024 ∧ sl + ms' ≤ 7293034)
    (hLc : padL Yc.2.2.1 (entA (.ref q :: As)) = Lc) (hle : (lg_sl (.ref q :: As)).length ≤ Yc.2.2.1)
    (hV : V Yc (d', mc', ms', N + gr, κ) 0 0 h 0 Lc [] P1)
    (kk : ∀ (v : Option Value) (h' : Hp), P1 v h' → LW κ N b Ln xs (gr + mc') (ca + mc') (sl + ms') h' (pc + 3) L (v.toList ++ rest)) : LW κ N b Ln xs gr ca sl h pc L st := by
  subst hst
  subst hLc
  intro p l e s m below meth c G aC H locs ls hF hK hR hz hS hL
  obtain ⟨ws, hP, hD, hC⟩ := hR
  obtain ⟨f1, f2, f3, f4, f5, f6, f7, f9, f10, f11, f12⟩ := id hF
  have hpr := V.pre (As := .ref q :: As) f9 hK f11 (fun q hq => by rw [f10] at hq; exact hq) f10 hP hD hz hS
  have hcb := callB_of (R := room_1) (rm := rmO d' mc' ms') (own := RL) (index := idx) (y := Yc.1) (bytes := Yc.2.1) (maxL := Yc.2.2.1) (ret := Yc.2.2.2) (ws := wsY Yc) (ws' := BG) n f5 (wsY_good hok) rfl rfl rfl (f5 _ hok.2.2.2.2.2) (f5 _ hlk) ⟨hok.2.1.1, hok.2.1.2, hok.2.2.1⟩ (lw_vrm hd hok.2.2.2.1)
  rw [hret] at hcb
  exact LW.after kk hF hK hD hz hS hL (va_runI (Ts := BG) ⟨f1, f2, f3, f4, f5⟩ (V.met hok hle hV l G aC ws hC)
    ⟨hcb, hnm, f5 _ hin⟩ hpr rfl hn (lh_size hL) rfl (lv_room hrm) hdg hm)
end LRows
