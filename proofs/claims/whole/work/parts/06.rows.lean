theorem V.go {Y : Yd} {Z : Zd} {ca sl : Nat} {h : Hp} {pc : Nat} {L : List (Option Value)} {st : List Value} {P : Option Value → Hp → Prop} (k : V Y Z ca sl h pc L st P)
    {p : Program} {l : Launch} {e : Env} {s : State} {m : MethodId} {args : Array Value} {below : List Frame} {meth : Method} {c : Code} {G : va_G} {aC : Nat → ClassId} {A : Nat → Prop} {H H1 : Heap} {locs locs1 : List Loc} {ls : Array Slot}
    (hF : Fx Y p s m args meth c) (hK : va_K G vwCl (tysOf aC) s) (hRO : RO Z.2.2.2.2 A s s.heap) (hA : ∀ q : Nat, s.heap.size ≤ q → A q) (hn : s.heap.size = Z.2.2.2.1) (hz : H.size = Z.2.2.2.1 + ca) (hS : va_S A s.heap H locs) (hL : Lh ls Y.2.2.1 L)
    (hR1 : Rp G aC A h H1) (hS1 : va_S A H H1 locs1) : W p l e (rmO Z.1 Z.2.1 Z.2.2.1) s m args below meth c H1 locs1 ca sl (MQ below (Qp G aC A Z.2.1 P) args s Z.2.1 Z.2.2.1 A) (F0 m pc ls st) := by
  intro T hT X
  have h1 : T.heap.size ≤ s.heap.size + ca := X.same.2.2.1
  have h2 := hS1.1
  have h3 := hS.1
  rw [hT] at h1
  exact k p l e s m args below meth c G aC A H1 locs1 ls hF hK hRO hA hn hR1 (by omega) ⟨Nat.le_trans hS.1 hS1.1, fun q a b => (hS1.2.1 q (by omega) b).trans (hS.2.1 q a b), hS1.2.2⟩ hL T hT X
theorem cpy_room {d : Nat} (hd : 1 ≤ d) {r : List Value} (h : (r.map fun v => v.category).sum ≤ 8) : (r.map fun v => v.category).sum + (nativeFrameWords "java/lang/System" "arraycopy" 5 + 11) ≤ 41 * d := by
  have e : nativeFrameWords "java/lang/System" "arraycopy" 5 + 11 ≤ 33 := by decide +kernel
  omega
theorem va_S.here {A : Nat → Prop} {H0 H : Heap} {locs : List Loc} (h : va_S A H0 H locs) : va_S A H H locs := ⟨Nat.le_refl _, fun _ _ _ => rfl, h.2.2⟩
section Rows
variable {Y : Yd} {Z : Zd} {ca sl : Nat} {h : Hp} {pc : Nat} {L : List (Option Value)} {rest : List Value} {P : Option Value → Hp → Prop}
theorem V.iconst {n : Int} {v : Int32} (hdg : decode Y.2.1 pc = .ok (.iconst n, 1)) (hv : Int32.ofInt n = v) (k : V Y Z ca sl h (pc + 1) L (.int v :: rest) P) : V Y Z ca sl h pc L (rest) P := by
  intro p l e s m args below meth c G aC A H locs ls hF hK hRO hA hn hR hz hS hL
  exact lv_iconst hF.1 hF.2.1 hdg hv (k p l e s m args below meth c G aC A H locs ls hF hK hRO hA hn hR hz hS hL)
theorem V.bipush {n : Int} {v : Int32} (hdg : decode Y.2.1 pc = .ok (.bipush n, 2)) (hv : (Int8.ofInt n).toInt32 = v) (k : V Y Z ca sl h (pc + 2) L (.int v :: rest) P) : V Y Z ca sl h pc L (rest) P := by
  intro p l e s m args below meth c G aC A H locs ls hF hK hRO hA hn hR hz hS hL
  exact lv_bipush hF.1 hF.2.1 hdg hv (k p l e s m args below meth c G aC A H locs ls hF hK hRO hA hn hR hz hS hL)
theorem V.sipush {n : Int} {v : Int32} (hdg : decode Y.2.1 pc = .ok (.sipush n, 3)) (hv : (Int16.ofInt n).toInt32 = v) (k : V Y Z ca sl h (pc + 3) L (.int v :: rest) P) : V Y Z ca sl h pc L (rest) P := by
  intro p l e s m args below meth c G aC A H locs ls hF hK hRO hA hn hR hz hS hL
  exact lv_sipush hF.1 hF.2.1 hdg hv (k p l e s m args below meth c G aC A H locs ls hF hK hRO hA hn hR hz hS hL)
theorem V.lconst {n : Fin 2} {v : Int64} (hdg : decode Y.2.1 pc = .ok (.lconst n, 1)) (hv : Int64.ofNat (n : Nat) = v) (k : V Y Z ca sl h (pc + 1) L (.long v :: rest) P) : V Y Z ca sl h pc L (rest) P := by
  intro p l e s m args below meth c G aC A H locs ls hF hK hRO hA hn hR hz hS hL
  exact lv_lconst hF.1 hF.2.1 hdg hv (k p l e s m args below meth c G aC A H locs ls hF hK hRO hA hn hR hz hS hL)
theorem V.iload_n {j : Fin 4} {x : Int32} (hdg : decode Y.2.1 pc = .ok (.iload_n j, 1)) (hx : L[(j : Nat)]? = some (some (.int x))) (k : V Y Z ca sl h (pc + 1) L (.int x :: rest) P) : V Y Z ca sl h pc L (rest) P := by
  intro p l e s m args below meth c G aC A H locs ls hF hK hRO hA hn hR hz hS hL
  exact lv_iload_n hF.1 hF.2.1 hdg rfl (hL.at hx) (k p l e s m args below meth c G aC A H locs ls hF hK hRO hA hn hR hz hS hL)
theorem V.iload {j : Nat} {x : Int32} (hdg : decode Y.2.1 pc = .ok (.iload j, 2)) (hx : L[j]? = some (some (.int x))) (k : V Y Z ca sl h (pc + 2) L (.int x :: rest) P) : V Y Z ca sl h pc L (rest) P := by
  intro p l e s m args below meth c G aC A H locs ls hF hK hRO hA hn hR hz hS hL
  exact lv_iload hF.1 hF.2.1 hdg (hL.at hx) (k p l e s m args below meth c G aC A H locs ls hF hK hRO hA hn hR hz hS hL)
theorem V.lload_n {j : Fin 4} {x : Int64} (hdg : decode Y.2.1 pc = .ok (.lload_n j, 1)) (hx : L[(j : Nat)]? = some (some (.long x))) (k : V Y Z ca sl h (pc + 1) L (.long x :: rest) P) : V Y Z ca sl h pc L (rest) P := by
  intro p l e s m args below meth c G aC A H locs ls hF hK hRO hA hn hR hz hS hL
  exact lv_lload_n hF.1 hF.2.1 hdg rfl (hL.at hx) (k p l e s m args below meth c G aC A H locs ls hF hK hRO hA hn hR hz hS hL)
theorem V.lload {j : Nat} {x : Int64} (hdg : decode Y.2.1 pc = .ok (.lload j, 2)) (hx : L[j]? = some (some (.long x))) (k : V Y Z ca sl h (pc + 2) L (.long x :: rest) P) : V Y Z ca sl h pc L (rest) P := by
  intro p l e s m args below meth c G aC A H locs ls hF hK hRO hA hn hR hz hS hL
  exact lv_lload hF.1 hF.2.1 hdg (hL.at hx) (k p l e s m args below meth c G aC A H locs ls hF hK hRO hA hn hR hz hS hL)
theorem V.aload_n {j : Fin 4} {x : Nat} (hdg : decode Y.2.1 pc = .ok (.aload_n j, 1)) (hx : L[(j : Nat)]? = some (some (.ref x))) (k : V Y Z ca sl h (pc + 1) L (.ref x :: rest) P) : V Y Z ca sl h pc L (rest) P := by
  intro p l e s m args below meth c G aC A H locs ls hF hK hRO hA hn hR hz hS hL
  exact lv_aload_n hF.1 hF.2.1 hdg rfl (hL.at hx) (k p l e s m args below meth c G aC A H locs ls hF hK hRO hA hn hR hz hS hL)
theorem V.aload {j : Nat} {x : Nat} (hdg : decode Y.2.1 pc = .ok (.aload j, 2)) (hx : L[j]? = some (some (.ref x))) (k : V Y Z ca sl h (pc + 2) L (.ref x :: rest) P) : V Y Z ca sl h pc L (rest) P := by
  intro p l e s m args below meth c G aC A H locs ls hF hK hRO hA hn hR hz hS hL
  exact lv_aload hF.1 hF.2.1 hdg (hL.at hx) (k p l e s m args below meth c G aC A H locs ls hF hK hRO hA hn hR hz hS hL)
theorem V.istore_n {j : Fin 4} {x : Int32} {L2 : List (Option Value)} (hdg : decode Y.2.1 pc = .ok (.istore_n j, 1)) (hj : (j : Nat) < Y.2.2.1) (hL2 : sto1 (j : Nat) (.int x) L = L2) (k : V Y Z ca sl h (pc + 1) L2 rest P) : V Y Z ca sl h pc L (.int x :: rest) P := by
  intro p l e s m args below meth c G aC A H locs ls hF hK hRO hA hn hR hz hS hL
  subst hL2
  obtain ⟨lv, a1, a2⟩ := hL
  exact lv_istore_n hF.1 hF.2.1 hdg rfl a1 hj rfl (fun ls2 h2 => k p l e s m args below meth c G aC A H locs ls2 hF hK hRO hA hn hR hz hS (Lh.sto1 a2 h2))
theorem V.istore {j : Nat} {x : Int32} {L2 : List (Option Value)} (hdg : decode Y.2.1 pc = .ok (.istore j, 2)) (hj : j < Y.2.2.1) (hL2 : sto1 j (.int x) L = L2) (k : V Y Z ca sl h (pc + 2) L2 rest P) : V Y Z ca sl h pc L (.int x :: rest) P := by
  intro p l e s m args below meth c G aC A H locs ls hF hK hRO hA hn hR hz hS hL
  subst hL2
  obtain ⟨lv, a1, a2⟩ := hL
  exact lv_istore hF.1 hF.2.1 hdg a1 hj rfl (fun ls2 h2 => k p l e s m args below meth c G aC A H locs ls2 hF hK hRO hA hn hR hz hS (Lh.sto1 a2 h2))
theorem V.astore_n {j : Fin 4} {x : Nat} {L2 : List (Option Value)} (hdg : decode Y.2.1 pc = .ok (.astore_n j, 1)) (hj : (j : Nat) < Y.2.2.1) (hL2 : sto1 (j : Nat) (.ref x) L = L2) (k : V Y Z ca sl h (pc + 1) L2 rest P) : V Y Z ca sl h pc L (.ref x :: rest) P := by
  intro p l e s m args below meth c G aC A H locs ls hF hK hRO hA hn hR hz hS hL
  subst hL2
  obtain ⟨lv, a1, a2⟩ := hL
  exact lv_astore_n hF.1 hF.2.1 hdg rfl a1 hj rfl (fun ls2 h2 => k p l e s m args below meth c G aC A H locs ls2 hF hK hRO hA hn hR hz hS (Lh.sto1 a2 h2))
theorem V.astore {j : Nat} {x : Nat} {L2 : List (Option Value)} (hdg : decode Y.2.1 pc = .ok (.astore j, 2)) (hj : j < Y.2.2.1) (hL2 : sto1 j (.ref x) L = L2) (k : V Y Z ca sl h (pc + 2) L2 rest P) : V Y Z ca sl h pc L (.ref x :: rest) P := by
  intro p l e s m args below meth c G aC A H locs ls hF hK hRO hA hn hR hz hS hL
  subst hL2
  obtain ⟨lv, a1, a2⟩ := hL
  exact lv_astore hF.1 hF.2.1 hdg a1 hj rfl (fun ls2 h2 => k p l e s m args below meth c G aC A H locs ls2 hF hK hRO hA hn hR hz hS (Lh.sto1 a2 h2))
theorem V.lstore_n {j : Fin 4} {x : Int64} {L2 : List (Option Value)} (hdg : decode Y.2.1 pc = .ok (.lstore_n j, 1)) (hj : (j : Nat) + 1 < Y.2.2.1) (hL2 : sto2 (j : Nat) (.long x) L = L2) (k : V Y Z ca sl h (pc + 1) L2 rest P) : V Y Z ca sl h pc L (.long x :: rest) P := by
  intro p l e s m args below meth c G aC A H locs ls hF hK hRO hA hn hR hz hS hL
  subst hL2
  obtain ⟨lv, a1, a2⟩ := hL
  exact lv_lstore_n hF.1 hF.2.1 hdg rfl a1 hj rfl (fun ls2 h2 => k p l e s m args below meth c G aC A H locs ls2 hF hK hRO hA hn hR hz hS (Lh.sto2 a2 h2))
theorem V.lstore {j : Nat} {x : Int64} {L2 : List (Option Value)} (hdg : decode Y.2.1 pc = .ok (.lstore j, 2)) (hj : j + 1 < Y.2.2.1) (hL2 : sto2 j (.long x) L = L2) (k : V Y Z ca sl h (pc + 2) L2 rest P) : V Y Z ca sl h pc L (.long x :: rest) P := by
  intro p l e s m args below meth c G aC A H locs ls hF hK hRO hA hn hR hz hS hL
  subst hL2
  obtain ⟨lv, a1, a2⟩ := hL
  exact lv_lstore hF.1 hF.2.1 hdg a1 hj rfl (fun ls2 h2 => k p l e s m args below meth c G aC A H locs ls2 hF hK hRO hA hn hR hz hS (Lh.sto2 a2 h2))
theorem V.iinc {j : Nat} {n : Int} {x v : Int32} {L2 : List (Option Value)} (hdg : decode Y.2.1 pc = .ok (.iinc j n, 3)) (hx : L[j]? = some (some (.int x))) (hv : Int32.ofInt n = v) (hj : j < Y.2.2.1) (hL2 : sto1 j (.int (x + v)) L = L2) (k : V Y Z ca sl h (pc + 3) L2 rest P) : V Y Z ca sl h pc L rest P := by
  intro p l e s m args below meth c G aC A H locs ls hF hK hRO hA hn hR hz hS hL
  subst hL2
  subst hv
  obtain ⟨lv, a1, a2⟩ := hL
  obtain ⟨q, hq⟩ := List.getElem?_of_mem (a2 j _ hx)
  exact lv_iinc hF.1 hF.2.1 hdg a1 hq rfl hj rfl (fun ls2 h2 => k p l e s m args below meth c G aC A H locs ls2 hF hK hRO hA hn hR hz hS (Lh.sto1 a2 h2))
theorem V.iincW {j : Nat} {n : Int} {x v : Int32} {L2 : List (Option Value)} (hdg : decode Y.2.1 pc = .ok (.iinc j n, 6)) (hx : L[j]? = some (some (.int x))) (hv : Int32.ofInt n = v) (hj : j < Y.2.2.1) (hL2 : sto1 j (.int (x + v)) L = L2) (k : V Y Z ca sl h (pc + 6) L2 rest P) : V Y Z ca sl h pc L rest P := by
  intro p l e s m args below meth c G aC A H locs ls hF hK hRO hA hn hR hz hS hL
  subst hL2
  subst hv
  obtain ⟨lv, a1, a2⟩ := hL
  obtain ⟨q, hq⟩ := List.getElem?_of_mem (a2 j _ hx)
  exact lv_iincW hF.1 hF.2.1 hdg a1 hq rfl hj rfl (fun ls2 h2 => k p l e s m args below meth c G aC A H locs ls2 hF hK hRO hA hn hR hz hS (Lh.sto1 a2 h2))
theorem V.iadd {x y : Int32} (hdg : decode Y.2.1 pc = .ok (.iadd, 1)) (k : V Y Z ca sl h (pc + 1) L (.int (x + y) :: rest) P) : V Y Z ca sl h pc L (.int y :: .int x :: rest) P := by
  intro p l e s m args below meth c G aC A H locs ls hF hK hRO hA hn hR hz hS hL
  exact lv_iadd hF.1 hF.2.1 hdg (k p l e s m args below meth c G aC A H locs ls hF hK hRO hA hn hR hz hS hL)
theorem V.isub {x y : Int32} (hdg : decode Y.2.1 pc = .ok (.isub, 1)) (k : V Y Z ca sl h (pc + 1) L (.int (x - y) :: rest) P) : V Y Z ca sl h pc L (.int y :: .int x :: rest) P := by
  intro p l e s m args below meth c G aC A H locs ls hF hK hRO hA hn hR hz hS hL
  exact lv_isub hF.1 hF.2.1 hdg (k p l e s m args below meth c G aC A H locs ls hF hK hRO hA hn hR hz hS hL)
theorem V.imul {x y : Int32} (hdg : decode Y.2.1 pc = .ok (.imul, 1)) (k : V Y Z ca sl h (pc + 1) L (.int (x * y) :: rest) P) : V Y Z ca sl h pc L (.int y :: .int x :: rest) P := by
  intro p l e s m args below meth c G aC A H locs ls hF hK hRO hA hn hR hz hS hL
  exact lv_imul hF.1 hF.2.1 hdg (k p l e s m args below meth c G aC A H locs ls hF hK hRO hA hn hR hz hS hL)
theorem V.iand {x y : Int32} (hdg : decode Y.2.1 pc = .ok (.iand, 1)) (k : V Y Z ca sl h (pc + 1) L (.int (x &&& y) :: rest) P) : V Y Z ca sl h pc L (.int y :: .int x :: rest) P := by
  intro p l e s m args below meth c G aC A H locs ls hF hK hRO hA hn hR hz hS hL
  exact lv_iand hF.1 hF.2.1 hdg (k p l e s m args below meth c G aC A H locs ls hF hK hRO hA hn hR hz hS hL)
theorem V.ior {x y : Int32} (hdg : decode Y.2.1 pc = .ok (.ior, 1)) (k : V Y Z ca sl h (pc + 1) L (.int (x ||| y) :: rest) P) : V Y Z ca sl h pc L (.int y :: .int x :: rest) P := by
  intro p l e s m args below meth c G aC A H locs ls hF hK hRO hA hn hR hz hS hL
  exact lv_ior hF.1 hF.2.1 hdg (k p l e s m args below meth c G aC A H locs ls hF hK hRO hA hn hR hz hS hL)
theorem V.ixor {x y : Int32} (hdg : decode Y.2.1 pc = .ok (.ixor, 1)) (k : V Y Z ca sl h (pc + 1) L (.int (x ^^^ y) :: rest) P) : V Y Z ca sl h pc L (.int y :: .int x :: rest) P := by
  intro p l e s m args below meth c G aC A H locs ls hF hK hRO hA hn hR hz hS hL
  exact lv_ixor hF.1 hF.2.1 hdg (k p l e s m args below meth c G aC A H locs ls hF hK hRO hA hn hR hz hS hL)
theorem V.ladd {x y : Int64} (hdg : decode Y.2.1 pc = .ok (.ladd, 1)) (k : V Y Z ca sl h (pc + 1) L (.long (x + y) :: rest) P) : V Y Z ca sl h pc L (.long y :: .long x :: rest) P := by
  intro p l e s m args below meth c G aC A H locs ls hF hK hRO hA hn hR hz hS hL
  exact lv_ladd hF.1 hF.2.1 hdg (k p l e s m args below meth c G aC A H locs ls hF hK hRO hA hn hR hz hS hL)
theorem V.lsub {x y : Int64} (hdg : decode Y.2.1 pc = .ok (.lsub, 1)) (k : V Y Z ca sl h (pc + 1) L (.long (x - y) :: rest) P) : V Y Z ca sl h pc L (.long y :: .long x :: rest) P := by
  intro p l e s m args below meth c G aC A H locs ls hF hK hRO hA hn hR hz hS hL
  exact lv_lsub hF.1 hF.2.1 hdg (k p l e s m args below meth c G aC A H locs ls hF hK hRO hA hn hR hz hS hL)
theorem V.lmul {x y : Int64} (hdg : decode Y.2.1 pc = .ok (.lmul, 1)) (k : V Y Z ca sl h (pc + 1) L (.long (x * y) :: rest) P) : V Y Z ca sl h pc L (.long y :: .long x :: rest) P := by
  intro p l e s m args below meth c G aC A H locs ls hF hK hRO hA hn hR hz hS hL
  exact lv_lmul hF.1 hF.2.1 hdg (k p l e s m args below meth c G aC A H locs ls hF hK hRO hA hn hR hz hS hL)
theorem V.land {x y : Int64} (hdg : decode Y.2.1 pc = .ok (.land, 1)) (k : V Y Z ca sl h (pc + 1) L (.long (x &&& y) :: rest) P) : V Y Z ca sl h pc L (.long y :: .long x :: rest) P := by
  intro p l e s m args below meth c G aC A H locs ls hF hK hRO hA hn hR hz hS hL
  exact lv_land hF.1 hF.2.1 hdg (k p l e s m args below meth c G aC A H locs ls hF hK hRO hA hn hR hz hS hL)
theorem V.lor {x y : Int64} (hdg : decode Y.2.1 pc = .ok (.lor, 1)) (k : V Y Z ca sl h (pc + 1) L (.long (x ||| y) :: rest) P) : V Y Z ca sl h pc L (.long y :: .long x :: rest) P := by
  intro p l e s m args below meth c G aC A H locs ls hF hK hRO hA hn hR hz hS hL
  exact lv_lor hF.1 hF.2.1 hdg (k p l e s m args below meth c G aC A H locs ls hF hK hRO hA hn hR hz hS hL)
theorem V.lxor {x y : Int64} (hdg : decode Y.2.1 pc = .ok (.lxor, 1)) (k : V Y Z ca sl h (pc + 1) L (.long (x ^^^ y) :: rest) P) : V Y Z ca sl h pc L (.long y :: .long x :: rest) P := by
  intro p l e s m args below meth c G aC A H locs ls hF hK hRO hA hn hR hz hS hL
  exact lv_lxor hF.1 hF.2.1 hdg (k p l e s m args below meth c G aC A H locs ls hF hK hRO hA hn hR hz hS hL)
theorem V.idiv {x y : Int32} (hdg : decode Y.2.1 pc = .ok (.idiv, 1)) (hne : ¬ y = 0) (k : V Y Z ca sl h (pc + 1) L (.int (x / y) :: rest) P) : V Y Z ca sl h pc L (.int y :: .int x :: rest) P := by
  intro p l e s m args below meth c G aC A H locs ls hF hK hRO hA hn hR hz hS hL
  exact lv_idiv hF.1 hF.2.1 hdg hne (k p l e s m args below meth c G aC A H locs ls hF hK hRO hA hn hR hz hS hL)
theorem V.irem {x y : Int32} (hdg : decode Y.2.1 pc = .ok (.irem, 1)) (hne : ¬ y = 0) (k : V Y Z ca sl h (pc + 1) L (.int (x - x / y * y) :: rest) P) : V Y Z ca sl h pc L (.int y :: .int x :: rest) P := by
  intro p l e s m args below meth c G aC A H locs ls hF hK hRO hA hn hR hz hS hL
  exact lv_irem hF.1 hF.2.1 hdg hne (k p l e s m args below meth c G aC A H locs ls hF hK hRO hA hn hR hz hS hL)
theorem V.ldiv {x y : Int64} (hdg : decode Y.2.1 pc = .ok (.ldiv, 1)) (hne : ¬ y = 0) (k : V Y Z ca sl h (pc + 1) L (.long (x / y) :: rest) P) : V Y Z ca sl h pc L (.long y :: .long x :: rest) P := by
  intro p l e s m args below meth c G aC A H locs ls hF hK hRO hA hn hR hz hS hL
  exact lv_ldiv hF.1 hF.2.1 hdg hne (k p l e s m args below meth c G aC A H locs ls hF hK hRO hA hn hR hz hS hL)
theorem V.lrem {x y : Int64} (hdg : decode Y.2.1 pc = .ok (.lrem, 1)) (hne : ¬ y = 0) (k : V Y Z ca sl h (pc + 1) L (.long (x - x / y * y) :: rest) P) : V Y Z ca sl h pc L (.long y :: .long x :: rest) P := by
  intro p l e s m args below meth c G aC A H locs ls hF hK hRO hA hn hR hz hS hL
  exact lv_lrem hF.1 hF.2.1 hdg hne (k p l e s m args below meth c G aC A H locs ls hF hK hRO hA hn hR hz hS hL)
theorem V.ineg {x : Int32} (hdg : decode Y.2.1 pc = .ok (.ineg, 1)) (k : V Y Z ca sl h (pc + 1) L (.int (-x) :: rest) P) : V Y Z ca sl h pc L (.int x :: rest) P := by
  intro p l e s m args below meth c G aC A H locs ls hF hK hRO hA hn hR hz hS hL
  exact lv_ineg hF.1 hF.2.1 hdg (k p l e s m args below meth c G aC A H locs ls hF hK hRO hA hn hR hz hS hL)
theorem V.lneg {x : Int64} (hdg : decode Y.2.1 pc = .ok (.lneg, 1)) (k : V Y Z ca sl h (pc + 1) L (.long (-x) :: rest) P) : V Y Z ca sl h pc L (.long x :: rest) P := by
  intro p l e s m args below meth c G aC A H locs ls hF hK hRO hA hn hR hz hS hL
  exact lv_lneg hF.1 hF.2.1 hdg (k p l e s m args below meth c G aC A H locs ls hF hK hRO hA hn hR hz hS hL)
theorem V.ishl {x y : Int32} (hdg : decode Y.2.1 pc = .ok (.ishl, 1)) (k : V Y Z ca sl h (pc + 1) L (.int (x <<< (y &&& 31)) :: rest) P) : V Y Z ca sl h pc L (.int y :: .int x :: rest) P := by
  intro p l e s m args below meth c G aC A H locs ls hF hK hRO hA hn hR hz hS hL
  exact lv_ishl hF.1 hF.2.1 hdg (k p l e s m args below meth c G aC A H locs ls hF hK hRO hA hn hR hz hS hL)
theorem V.ishr {x y : Int32} (hdg : decode Y.2.1 pc = .ok (.ishr, 1)) (k : V Y Z ca sl h (pc + 1) L (.int (x >>> (y &&& 31)) :: rest) P) : V Y Z ca sl h pc L (.int y :: .int x :: rest) P := by
  intro p l e s m args below meth c G aC A H locs ls hF hK hRO hA hn hR hz hS hL
  exact lv_ishr hF.1 hF.2.1 hdg (k p l e s m args below meth c G aC A H locs ls hF hK hRO hA hn hR hz hS hL)
theorem V.iushr {x y : Int32} (hdg : decode Y.2.1 pc = .ok (.iushr, 1)) (k : V Y Z ca sl h (pc + 1) L (.int ((x.toUInt32 >>> (y.toUInt32 &&& Int32.toUInt32 31)).toInt32) :: rest) P) : V Y Z ca sl h pc L (.int y :: .int x :: rest) P := by
  intro p l e s m args below meth c G aC A H locs ls hF hK hRO hA hn hR hz hS hL
  exact lv_iushr hF.1 hF.2.1 hdg rfl (k p l e s m args below meth c G aC A H locs ls hF hK hRO hA hn hR hz hS hL)
theorem V.lshl {x : Int64} {y : Int32} (hdg : decode Y.2.1 pc = .ok (.lshl, 1)) (k : V Y Z ca sl h (pc + 1) L (.long (x <<< (y.toInt64 &&& 63)) :: rest) P) : V Y Z ca sl h pc L (.int y :: .long x :: rest) P := by
  intro p l e s m args below meth c G aC A H locs ls hF hK hRO hA hn hR hz hS hL
  exact lv_lshl hF.1 hF.2.1 hdg rfl (k p l e s m args below meth c G aC A H locs ls hF hK hRO hA hn hR hz hS hL)
theorem V.lshr {x : Int64} {y : Int32} (hdg : decode Y.2.1 pc = .ok (.lshr, 1)) (k : V Y Z ca sl h (pc + 1) L (.long (x >>> (y.toInt64 &&& 63)) :: rest) P) : V Y Z ca sl h pc L (.int y :: .long x :: rest) P := by
  intro p l e s m args below meth c G aC A H locs ls hF hK hRO hA hn hR hz hS hL
  exact lv_lshr hF.1 hF.2.1 hdg rfl (k p l e s m args below meth c G aC A H locs ls hF hK hRO hA hn hR hz hS hL)
theorem V.lushr {x : Int64} {y : Int32} (hdg : decode Y.2.1 pc = .ok (.lushr, 1)) (k : V Y Z ca sl h (pc + 1) L (.long ((x.toUInt64 >>> (y.toInt64.toUInt64 &&& Int64.toUInt64 63)).toInt64) :: rest) P) : V Y Z ca sl h pc L (.int y :: .long x :: rest) P := by
  intro p l e s m args below meth c G aC A H locs ls hF hK hRO hA hn hR hz hS hL
  exact lv_lushr hF.1 hF.2.1 hdg rfl (k p l e s m args below meth c G aC A H locs ls hF hK hRO hA hn hR hz hS hL)
theorem V.i2l {x : Int32} (hdg : decode Y.2.1 pc = .ok (.i2l, 1)) (k : V Y Z ca sl h (pc + 1) L (.long x.toInt64 :: rest) P) : V Y Z ca sl h pc L (.int x :: rest) P := by
  intro p l e s m args below meth c G aC A H locs ls hF hK hRO hA hn hR hz hS hL
  exact lv_i2l hF.1 hF.2.1 hdg rfl (k p l e s m args below meth c G aC A H locs ls hF hK hRO hA hn hR hz hS hL)
theorem V.l2i {x : Int64} (hdg : decode Y.2.1 pc = .ok (.l2i, 1)) (k : V Y Z ca sl h (pc + 1) L (.int x.toInt32 :: rest) P) : V Y Z ca sl h pc L (.long x :: rest) P := by
  intro p l e s m args below meth c G aC A H locs ls hF hK hRO hA hn hR hz hS hL
  exact lv_l2i hF.1 hF.2.1 hdg rfl (k p l e s m args below meth c G aC A H locs ls hF hK hRO hA hn hR hz hS hL)
theorem V.i2c {x : Int32} (hdg : decode Y.2.1 pc = .ok (.i2c, 1)) (k : V Y Z ca sl h (pc + 1) L (.int (x.toUInt32 % 65536).toInt32 :: rest) P) : V Y Z ca sl h pc L (.int x :: rest) P := by
  intro p l e s m args below meth c G aC A H locs ls hF hK hRO hA hn hR hz hS hL
  exact lv_i2c hF.1 hF.2.1 hdg rfl (k p l e s m args below meth c G aC A H locs ls hF hK hRO hA hn hR hz hS hL)
theorem V.lcmp {x y : Int64} (hdg : decode Y.2.1 pc = .ok (.lcmp, 1)) (k : V Y Z ca sl h (pc + 1) L (.int (lg_cmp x y) :: rest) P) : V Y Z ca sl h pc L (.long y :: .long x :: rest) P := by
  intro p l e s m args below meth c G aC A H locs ls hF hK hRO hA hn hR hz hS hL
  exact W.lcmp hF.1 hF.2.1 hdg (k p l e s m args below meth c G aC A H locs ls hF hK hRO hA hn hR hz hS hL)
theorem V.dup {va : Value} (hdg : decode Y.2.1 pc = .ok (.dup, 1)) (hva : va.category = 1) (k : V Y Z ca sl h (pc + 1) L (va :: va :: rest) P) : V Y Z ca sl h pc L (va :: rest) P := by
  intro p l e s m args below meth c G aC A H locs ls hF hK hRO hA hn hR hz hS hL
  exact lv_dup hF.1 hF.2.1 hdg hva (k p l e s m args below meth c G aC A H locs ls hF hK hRO hA hn hR hz hS hL)
theorem V.pop {va : Value} (hdg : decode Y.2.1 pc = .ok (.pop, 1)) (hva : va.category = 1) (k : V Y Z ca sl h (pc + 1) L (rest) P) : V Y Z ca sl h pc L (va :: rest) P := by
  intro p l e s m args below meth c G aC A H locs ls hF hK hRO hA hn hR hz hS hL
  exact lv_pop hF.1 hF.2.1 hdg hva (k p l e s m args below meth c G aC A H locs ls hF hK hRO hA hn hR hz hS hL)
theorem V.dup_x1 {va vb : Value} (hdg : decode Y.2.1 pc = .ok (.dup_x1, 1)) (hva : va.category = 1) (hvb : vb.category = 1) (k : V Y Z ca sl h (pc + 1) L (va :: vb :: va :: rest) P) : V Y Z ca sl h pc L (va :: vb :: rest) P := by
  intro p l e s m args below meth c G aC A H locs ls hF hK hRO hA hn hR hz hS hL
  exact lv_dup_x1 hF.1 hF.2.1 hdg hva hvb (k p l e s m args below meth c G aC A H locs ls hF hK hRO hA hn hR hz hS hL)
theorem V.dup2 {va vb : Value} (hdg : decode Y.2.1 pc = .ok (.dup2, 1)) (hva : va.category = 1) (hvb : vb.category = 1) (k : V Y Z ca sl h (pc + 1) L (va :: vb :: va :: vb :: rest) P) : V Y Z ca sl h pc L (va :: vb :: rest) P := by
  intro p l e s m args below meth c G aC A H locs ls hF hK hRO hA hn hR hz hS hL
  exact lv_dup2_11 hF.1 hF.2.1 hdg hva hvb (k p l e s m args below meth c G aC A H locs ls hF hK hRO hA hn hR hz hS hL)
theorem V.dup2l {x : Int64} (hdg : decode Y.2.1 pc = .ok (.dup2, 1)) (k : V Y Z ca sl h (pc + 1) L (.long x :: .long x :: rest) P) : V Y Z ca sl h pc L (.long x :: rest) P := by
  intro p l e s m args below meth c G aC A H locs ls hF hK hRO hA hn hR hz hS hL
  exact lv_dup2_2 hF.1 hF.2.1 hdg rfl (k p l e s m args below meth c G aC A H locs ls hF hK hRO hA hn hR hz hS hL)
theorem V.if_eq {x : Int32} {off : Int} (tgt : Nat) (hdg : decode Y.2.1 pc = .ok (.ifCond .eq off, 3)) (ht : (pc : Int) + off = (tgt : Int)) (kt : x = 0 → V Y Z ca sl h tgt L rest P) (kf : ¬ (x = 0) → V Y Z ca sl h (pc + 3) L rest P) : V Y Z ca sl h pc L (.int x :: rest) P := by
  intro p l e s m args below meth c G aC A H locs ls hF hK hRO hA hn hR hz hS hL
  exact lv_if_eq hF.1 hF.2.1 hdg ht (fun q => kt q p l e s m args below meth c G aC A H locs ls hF hK hRO hA hn hR hz hS hL) (fun q => kf q p l e s m args below meth c G aC A H locs ls hF hK hRO hA hn hR hz hS hL)
theorem V.if_ne {x : Int32} {off : Int} (tgt : Nat) (hdg : decode Y.2.1 pc = .ok (.ifCond .ne off, 3)) (ht : (pc : Int) + off = (tgt : Int)) (kt : ¬ x = 0 → V Y Z ca sl h tgt L rest P) (kf : x = 0 → V Y Z ca sl h (pc + 3) L rest P) : V Y Z ca sl h pc L (.int x :: rest) P := by
  intro p l e s m args below meth c G aC A H locs ls hF hK hRO hA hn hR hz hS hL
  exact lv_if_ne hF.1 hF.2.1 hdg ht (fun q => kt q p l e s m args below meth c G aC A H locs ls hF hK hRO hA hn hR hz hS hL) (fun q => kf q p l e s m args below meth c G aC A H locs ls hF hK hRO hA hn hR hz hS hL)
theorem V.if_lt {x : Int32} {off : Int} (tgt : Nat) (hdg : decode Y.2.1 pc = .ok (.ifCond .lt off, 3)) (ht : (pc : Int) + off = (tgt : Int)) (kt : x < 0 → V Y Z ca sl h tgt L rest P) (kf : ¬ (x < 0) → V Y Z ca sl h (pc + 3) L rest P) : V Y Z ca sl h pc L (.int x :: rest) P := by
  intro p l e s m args below meth c G aC A H locs ls hF hK hRO hA hn hR hz hS hL
  exact lv_if_lt hF.1 hF.2.1 hdg ht (fun q => kt q p l e s m args below meth c G aC A H locs ls hF hK hRO hA hn hR hz hS hL) (fun q => kf q p l e s m args below meth c G aC A H locs ls hF hK hRO hA hn hR hz hS hL)
theorem V.if_ge {x : Int32} {off : Int} (tgt : Nat) (hdg : decode Y.2.1 pc = .ok (.ifCond .ge off, 3)) (ht : (pc : Int) + off = (tgt : Int)) (kt : 0 ≤ x → V Y Z ca sl h tgt L rest P) (kf : ¬ (0 ≤ x) → V Y Z ca sl h (pc + 3) L rest P) : V Y Z ca sl h pc L (.int x :: rest) P := by
  intro p l e s m args below meth c G aC A H locs ls hF hK hRO hA hn hR hz hS hL
  exact lv_if_ge hF.1 hF.2.1 hdg ht (fun q => kt q p l e s m args below meth c G aC A H locs ls hF hK hRO hA hn hR hz hS hL) (fun q => kf q p l e s m args below meth c G aC A H locs ls hF hK hRO hA hn hR hz hS hL)
theorem V.if_gt {x : Int32} {off : Int} (tgt : Nat) (hdg : decode Y.2.1 pc = .ok (.ifCond .gt off, 3)) (ht : (pc : Int) + off = (tgt : Int)) (kt : 0 < x → V Y Z ca sl h tgt L rest P) (kf : ¬ (0 < x) → V Y Z ca sl h (pc + 3) L rest P) : V Y Z ca sl h pc L (.int x :: rest) P := by
  intro p l e s m args below meth c G aC A H locs ls hF hK hRO hA hn hR hz hS hL
  exact lv_if_gt hF.1 hF.2.1 hdg ht (fun q => kt q p l e s m args below meth c G aC A H locs ls hF hK hRO hA hn hR hz hS hL) (fun q => kf q p l e s m args below meth c G aC A H locs ls hF hK hRO hA hn hR hz hS hL)
theorem V.if_le {x : Int32} {off : Int} (tgt : Nat) (hdg : decode Y.2.1 pc = .ok (.ifCond .le off, 3)) (ht : (pc : Int) + off = (tgt : Int)) (kt : x ≤ 0 → V Y Z ca sl h tgt L rest P) (kf : ¬ (x ≤ 0) → V Y Z ca sl h (pc + 3) L rest P) : V Y Z ca sl h pc L (.int x :: rest) P := by
  intro p l e s m args below meth c G aC A H locs ls hF hK hRO hA hn hR hz hS hL
  exact lv_if_le hF.1 hF.2.1 hdg ht (fun q => kt q p l e s m args below meth c G aC A H locs ls hF hK hRO hA hn hR hz hS hL) (fun q => kf q p l e s m args below meth c G aC A H locs ls hF hK hRO hA hn hR hz hS hL)
theorem V.icmp_eq {x y : Int32} {off : Int} (tgt : Nat) (hdg : decode Y.2.1 pc = .ok (.if_icmp .eq off, 3)) (ht : (pc : Int) + off = (tgt : Int)) (kt : x = y → V Y Z ca sl h tgt L rest P) (kf : ¬ (x = y) → V Y Z ca sl h (pc + 3) L rest P) : V Y Z ca sl h pc L (.int y :: .int x :: rest) P := by
  intro p l e s m args below meth c G aC A H locs ls hF hK hRO hA hn hR hz hS hL
  exact lv_icmp_eq hF.1 hF.2.1 hdg ht (fun q => kt q p l e s m args below meth c G aC A H locs ls hF hK hRO hA hn hR hz hS hL) (fun q => kf q p l e s m args below meth c G aC A H locs ls hF hK hRO hA hn hR hz hS hL)
theorem V.icmp_ne {x y : Int32} {off : Int} (tgt : Nat) (hdg : decode Y.2.1 pc = .ok (.if_icmp .ne off, 3)) (ht : (pc : Int) + off = (tgt : Int)) (kt : ¬ x = y → V Y Z ca sl h tgt L rest P) (kf : x = y → V Y Z ca sl h (pc + 3) L rest P) : V Y Z ca sl h pc L (.int y :: .int x :: rest) P := by
  intro p l e s m args below meth c G aC A H locs ls hF hK hRO hA hn hR hz hS hL
  exact lv_icmp_ne hF.1 hF.2.1 hdg ht (fun q => kt q p l e s m args below meth c G aC A H locs ls hF hK hRO hA hn hR hz hS hL) (fun q => kf q p l e s m args below meth c G aC A H locs ls hF hK hRO hA hn hR hz hS hL)
theorem V.icmp_lt {x y : Int32} {off : Int} (tgt : Nat) (hdg : decode Y.2.1 pc = .ok (.if_icmp .lt off, 3)) (ht : (pc : Int) + off = (tgt : Int)) (kt : x < y → V Y Z ca sl h tgt L rest P) (kf : ¬ (x < y) → V Y Z ca sl h (pc + 3) L rest P) : V Y Z ca sl h pc L (.int y :: .int x :: rest) P := by
  intro p l e s m args below meth c G aC A H locs ls hF hK hRO hA hn hR hz hS hL
  exact lv_icmp_lt hF.1 hF.2.1 hdg ht (fun q => kt q p l e s m args below meth c G aC A H locs ls hF hK hRO hA hn hR hz hS hL) (fun q => kf q p l e s m args below meth c G aC A H locs ls hF hK hRO hA hn hR hz hS hL)
theorem V.icmp_ge {x y : Int32} {off : Int} (tgt : Nat) (hdg : decode Y.2.1 pc = .ok (.if_icmp .ge off, 3)) (ht : (pc : Int) + off = (tgt : Int)) (kt : y ≤ x → V Y Z ca sl h tgt L rest P) (kf : ¬ (y ≤ x) → V Y Z ca sl h (pc + 3) L rest P) : V Y Z ca sl h pc L (.int y :: .int x :: rest) P := by
  intro p l e s m args below meth c G aC A H locs ls hF hK hRO hA hn hR hz hS hL
  exact lv_icmp_ge hF.1 hF.2.1 hdg ht (fun q => kt q p l e s m args below meth c G aC A H locs ls hF hK hRO hA hn hR hz hS hL) (fun q => kf q p l e s m args below meth c G aC A H locs ls hF hK hRO hA hn hR hz hS hL)
theorem V.icmp_gt {x y : Int32} {off : Int} (tgt : Nat) (hdg : decode Y.2.1 pc = .ok (.if_icmp .gt off, 3)) (ht : (pc : Int) + off = (tgt : Int)) (kt : y < x → V Y Z ca sl h tgt L rest P) (kf : ¬ (y < x) → V Y Z ca sl h (pc + 3) L rest P) : V Y Z ca sl h pc L (.int y :: .int x :: rest) P := by
  intro p l e s m args below meth c G aC A H locs ls hF hK hRO hA hn hR hz hS hL
  exact lv_icmp_gt hF.1 hF.2.1 hdg ht (fun q => kt q p l e s m args below meth c G aC A H locs ls hF hK hRO hA hn hR hz hS hL) (fun q => kf q p l e s m args below meth c G aC A H locs ls hF hK hRO hA hn hR hz hS hL)
theorem V.icmp_le {x y : Int32} {off : Int} (tgt : Nat) (hdg : decode Y.2.1 pc = .ok (.if_icmp .le off, 3)) (ht : (pc : Int) + off = (tgt : Int)) (kt : x ≤ y → V Y Z ca sl h tgt L rest P) (kf : ¬ (x ≤ y) → V Y Z ca sl h (pc + 3) L rest P) : V Y Z ca sl h pc L (.int y :: .int x :: rest) P := by
  intro p l e s m args below meth c G aC A H locs ls hF hK hRO hA hn hR hz hS hL
  exact lv_icmp_le hF.1 hF.2.1 hdg ht (fun q => kt q p l e s m args below meth c G aC A H locs ls hF hK hRO hA hn hR hz hS hL) (fun q => kf q p l e s m args below meth c G aC A H locs ls hF hK hRO hA hn hR hz hS hL)
theorem V.goto {off : Int} (tgt : Nat) (hdg : decode Y.2.1 pc = .ok (.goto off, 3)) (ht : (pc : Int) + off = (tgt : Int)) (k : V Y Z ca sl h tgt L rest P) : V Y Z ca sl h pc L rest P := by
  intro p l e s m args below meth c G aC A H locs ls hF hK hRO hA hn hR hz hS hL
  exact lv_goto hF.1 hF.2.1 hdg ht (k p l e s m args below meth c G aC A H locs ls hF hK hRO hA hn hR hz hS hL)
theorem V.tsw {dflt lo hi : Int} {offs : Array Int} {len : Nat} {x : Int32} (hdg : decode Y.2.1 pc = .ok (.tableswitch dflt lo hi offs, len)) (tg : Nat → Nat) (hof : ∀ j : Nat, j < (hi + 1 - lo).toNat → ∃ off : Int, offs[j]? = some off ∧ (pc : Int) + off = (tg j : Int)) (td : Nat) (htd : (pc : Int) + dflt = (td : Int))
    (kin : ∀ j : Nat, j < (hi + 1 - lo).toNat → x.toInt = lo + j → V Y Z ca sl h (tg j) L rest P) (kout : x.toInt < lo ∨ hi < x.toInt → V Y Z ca sl h td L rest P) : V Y Z ca sl h pc L (.int x :: rest) P := by
  intro p l e s m args below meth c G aC A H locs ls hF hK hRO hA hn hR hz hS hL
  rcases Classical.em (x.toInt < lo ∨ hi < x.toInt) with q | q
  · exact lv_tableOut hF.1 hF.2.1 hdg q htd (kout q p l e s m args below meth c G aC A H locs ls hF hK hRO hA hn hR hz hS hL)
  · have q1 : ¬ x.toInt < lo := fun z => q (Or.inl z)
    have q2 : ¬ hi < x.toInt := fun z => q (Or.inr z)
    obtain ⟨off, h1, h2⟩ := hof (x.toInt - lo).toNat (by omega)
    exact lv_tableIn hF.1 hF.2.1 hdg q1 q2 h1 h2 (kin (x.toInt - lo).toNat (by omega) (by omega) p l e s m args below meth c G aC A H locs ls hF hK hRO hA hn hR hz hS hL)
theorem V.lsw {dflt : Int} {ps : Array (Int × Int)} {len : Nat} {x : Int32} {off : Int} (tgt : Nat) (hdg : decode Y.2.1 pc = .ok (.lookupswitch dflt ps, len)) (hp : (ps.toList.zip (ps.toList.drop 1)).all (fun (a, next) => a.1 < next.1) = true) (ho : Op.lookupswitch.offset ps.toList dflt x.toInt = off) (ht : (pc : Int) + off = (tgt : Int)) (k : V Y Z ca sl h tgt L rest P) : V Y Z ca sl h pc L (.int x :: rest) P := by
  intro p l e s m args below meth c G aC A H locs ls hF hK hRO hA hn hR hz hS hL
  exact lv_lookup hF.1 hF.2.1 hdg hp ho ht (k p l e s m args below meth c G aC A H locs ls hF hK hRO hA hn hR hz hS hL)
theorem V.ldc {idx : Nat} {v : Int32} (hlk : Cond.constant Y.1.cls idx v ∈ BG) (hdg : decode Y.2.1 pc = .ok (.ldc idx, 2)) (k : V Y Z ca sl h (pc + 2) L (.int v :: rest) P) : V Y Z ca sl h pc L rest P := by
  intro p l e s m args below meth c G aC A H locs ls hF hK hRO hA hn hR hz hS hL
  exact lv_ldc hF.1 hF.2.1 hF.2.2.2.1 (hF.2.2.2.2.1 _ hlk) hdg (k p l e s m args below meth c G aC A H locs ls hF hK hRO hA hn hR hz hS hL)
theorem V.ldcw {idx : Nat} {v : Int32} (hlk : Cond.constant Y.1.cls idx v ∈ BG) (hdg : decode Y.2.1 pc = .ok (.ldc_w idx, 3)) (k : V Y Z ca sl h (pc + 3) L (.int v :: rest) P) : V Y Z ca sl h pc L rest P := by
  intro p l e s m args below meth c G aC A H locs ls hF hK hRO hA hn hR hz hS hL
  exact lv_ldcw hF.1 hF.2.1 hF.2.2.2.1 (hF.2.2.2.2.1 _ hlk) hdg (k p l e s m args below meth c G aC A H locs ls hF hK hRO hA hn hR hz hS hL)
theorem V.ldc2 {idx : Nat} {v : Int64} (hlk : Cond.constantLong Y.1.cls idx v ∈ BG) (hdg : decode Y.2.1 pc = .ok (.ldc2_w idx, 3)) (k : V Y Z ca sl h (pc + 3) L (.long v :: rest) P) : V Y Z ca sl h pc L rest P := by
  intro p l e s m args below meth c G aC A H locs ls hF hK hRO hA hn hR hz hS hL
  exact lv_ldc2 hF.1 hF.2.1 hF.2.2.2.1 (hF.2.2.2.2.1 _ hlk) hdg (k p l e s m args below meth c G aC A H locs ls hF hK hRO hA hn hR hz hS hL)
def Cok (ci : Nat) (C : String) (T : u_T) (N : Nat) (ty : Nat → FieldType) : Prop := vwCl[ci]? = some (C, T, N) ∧ (∀ w ∈ u_ws C T N, w ∈ BG) ∧ (∀ k, k < N → parseFieldDescriptor (T k).2.2.1 = some (ty k)) ∧ ∀ a, a < N → ∀ b, b < N → a ≠ b → (T a).2.1 ≠ (T b).2.1
theorem V.getf {ci : Nat} {C : String} {T : u_T} {N : Nat} {ty : Nat → FieldType} (ok : Cok ci C T N ty) (i : Nat) {idx a : Nat} {fs : List Value} {v : Value} (hlk : Cond.fieldLink Y.1.cls idx (T i).1 (T i).2.1 (T i).2.2.1 ∈ BG) (hdg : decode Y.2.1 pc = .ok (.getfield idx, 3)) (hi : i < N) (ha : h a = some (.inr (ci, fs))) (hv : fs[i]? = some v) (k : V Y Z ca sl h (pc + 3) L (v :: rest) P) : V Y Z ca sl h pc L (.ref a :: rest) P := by
  intro p l e s m args below meth c G aC A H locs ls hF hK hRO hA hn hR hz hS hL
  obtain ⟨ws, hP, hD, hC⟩ := id hR
  obtain ⟨q, hq⟩ := hC.at ha
  exact va_get hF.1 hF.2.1 hF.2.2.2.2.1 ok.2.1 hF.2.2.2.1 hK hP q hq ok.1 i hi (hF.2.2.2.2.1 _ hlk) (fun x hx => hx) hv hdg (k p l e s m args below meth c G aC A H locs ls hF hK hRO hA hn hR hz hS hL)
theorem V.putf {ci : Nat} {C : String} {T : u_T} {N : Nat} {ty : Nat → FieldType} (ok : Cok ci C T N ty) (i : Nat) {idx a : Nat} {fs : List Value} {v : Value} (hlk : Cond.fieldLink Y.1.cls idx (T i).1 (T i).2.1 (T i).2.2.1 ∈ BG) (hdg : decode Y.2.1 pc = .ok (.putfield idx, 3)) (hi : i < N) (hfin : (T i).2.2.2 = false) (ha : h a = some (.inr (ci, fs))) (hn0 : narrow (ty i) v = v) (hfit : fits (ty i) v = true) (hl : i < fs.length) (k : V Y Z ca sl (up h a (.inr (ci, fs.set i v))) (pc + 3) L rest P) : V Y Z ca sl h pc L (v :: .ref a :: rest) P := by
  intro p l e s m args below meth c G aC A H locs ls hF hK hRO hA hn hR hz hS hL
  obtain ⟨ws, hP, hD, hC⟩ := id hR
  obtain ⟨q, hq⟩ := hC.at ha
  exact va_put hF.1 hF.2.1 hF.2.2.2.2.1 ok.2.1 ty ok.2.2.1 ok.2.2.2 hF.2.2.2.1 hK hP hD hS.here q hq ok.1 i hi (hF.2.2.2.2.1 _ hlk) (fun x hx => hx) hfin (ok.2.2.1 i hi) hn0 hfit hl hdg (fun H1 locs1 hP1 hD1 hS1 => V.go k hF hK hRO hA hn hz hS hL ⟨_, hP1, hD1, hC.set (o := .inr (ci, fs.set i v)) hq⟩ hS1)
theorem V.putfF {ci : Nat} {C : String} {T : u_T} {N : Nat} {ty : Nat → FieldType} (ok : Cok ci C T N ty) (i : Nat) {idx a : Nat} {fs : List Value} {v : Value} (hlk : Cond.fieldLink Y.1.cls idx (T i).1 (T i).2.1 (T i).2.2.1 ∈ BG) (hdg : decode Y.2.1 pc = .ok (.putfield idx, 3)) (hi : i < N) (hfin : (T i).2.2.2 = true) (hnm : Y.1.name = "<init>") (hdc : (T i).1 = Y.1.cls) (ha : h a = some (.inr (ci, fs))) (hn0 : narrow (ty i) v = v) (hfit : fits (ty i) v = true) (hl : i < fs.length) (k : V Y Z ca sl (up h a (.inr (ci, fs.set i v))) (pc + 3) L rest P) : V Y Z ca sl h pc L (v :: .ref a :: rest) P := by
  intro p l e s m args below meth c G aC A H locs ls hF hK hRO hA hn hR hz hS hL
  obtain ⟨ws, hP, hD, hC⟩ := id hR
  obtain ⟨q, hq⟩ := hC.at ha
  exact va_putF hF.1 hF.2.1 hF.2.2.2.2.1 ok.2.1 ty ok.2.2.1 ok.2.2.2 hF.2.2.2.1 hK hP hD hS.here q hq ok.1 i hi (hF.2.2.2.2.1 _ hlk) (fun x hx => hx) hfin (hF.2.2.2.2.2.2.2.1.trans hnm) hdc (ok.2.2.1 i hi) hn0 hfit hl hdg (fun H1 locs1 hP1 hD1 hS1 => V.go k hF hK hRO hA hn hz hS hL ⟨_, hP1, hD1, hC.set (o := .inr (ci, fs.set i v)) hq⟩ hS1)
theorem V.getfN {ci : Nat} {C : String} {T : u_T} {N : Nat} {ty : Nat → FieldType} {host : String} (ok : Cok ci C T N ty) (i : Nat) {idx a : Nat} {fs : List Value} {v : Value} (hlk : Cond.fieldLinkNest Y.1.cls idx (T i).1 (T i).2.1 (T i).2.2.1 host ∈ NW) (hdg : decode Y.2.1 pc = .ok (.getfield idx, 3)) (hi : i < N) (ha : h a = some (.inr (ci, fs))) (hv : fs[i]? = some v) (k : V Y Z ca sl h (pc + 3) L (v :: rest) P) : V Y Z ca sl h pc L (.ref a :: rest) P := by
  intro p l e s m args below meth c G aC A H locs ls hF hK hRO hA hn hR hz hS hL
  obtain ⟨ws, hP, hD, hC⟩ := id hR
  obtain ⟨q, hq⟩ := hC.at ha
  exact va_getN hF.1 hF.2.1 hF.2.2.2.2.1 ok.2.1 hF.2.2.2.1 hK hP q hq ok.1 i hi (va_Nw.use rfl (hF.2.2.2.2.2.2.2.2 _ hlk)) (fun x hx => hx) hv hdg (k p l e s m args below meth c G aC A H locs ls hF hK hRO hA hn hR hz hS hL)
theorem V.iald {a n : Nat} {f : Nat → Int32} {i : Int32} (hdg : decode Y.2.1 pc = .ok (.iaload, 1)) (ha : h a = some (.inl (0, n, .inl f))) (hin : vp_in i n) (k : V Y Z ca sl h (pc + 1) L (.int (f i.toNatClampNeg) :: rest) P) : V Y Z ca sl h pc L (.int i :: .ref a :: rest) P := by
  intro p l e s m args below meth c G aC A H locs ls hF hK hRO hA hn hR hz hS hL
  obtain ⟨ws, hP, hD, hC⟩ := id hR
  obtain ⟨q, hq⟩ := hC.at ha
  exact va_iald hF.1 hF.2.1 hK hP q 0 hq rfl hin hdg (k p l e s m args below meth c G aC A H locs ls hF hK hRO hA hn hR hz hS hL)
theorem V.lald {a n : Nat} {f : Nat → Int64} {i : Int32} (hdg : decode Y.2.1 pc = .ok (.laload, 1)) (ha : h a = some (.inl (1, n, .inr (.inl f)))) (hin : vp_in i n) (k : V Y Z ca sl h (pc + 1) L (.long (f i.toNatClampNeg) :: rest) P) : V Y Z ca sl h pc L (.int i :: .ref a :: rest) P := by
  intro p l e s m args below meth c G aC A H locs ls hF hK hRO hA hn hR hz hS hL
  obtain ⟨ws, hP, hD, hC⟩ := id hR
  obtain ⟨q, hq⟩ := hC.at ha
  exact va_lald hF.1 hF.2.1 hK hP q 1 hq rfl hin hdg (k p l e s m args below meth c G aC A H locs ls hF hK hRO hA hn hR hz hS hL)
theorem V.zald {a n : Nat} {f : Nat → Int32} {i : Int32} (hdg : decode Y.2.1 pc = .ok (.baload, 1)) (ha : h a = some (.inl (2, n, .inl f))) (hin : vp_in i n) (k : V Y Z ca sl h (pc + 1) L (.int (f i.toNatClampNeg) :: rest) P) : V Y Z ca sl h pc L (.int i :: .ref a :: rest) P := by
  intro p l e s m args below meth c G aC A H locs ls hF hK hRO hA hn hR hz hS hL
  obtain ⟨ws, hP, hD, hC⟩ := id hR
  obtain ⟨q, hq⟩ := hC.at ha
  exact va_zald hF.1 hF.2.1 hK hP q 2 hq rfl hin hdg (k p l e s m args below meth c G aC A H locs ls hF hK hRO hA hn hR hz hS hL)
theorem V.iast {a n : Nat} {f : Nat → Int32} {i : Int32} {x : Int32} (hdg : decode Y.2.1 pc = .ok (.iastore, 1)) (ha : h a = some (.inl (0, n, .inl f))) (hin : vp_in i n) (k : V Y Z ca sl (up h a (.inl (0, n, .inl (upd f i.toNatClampNeg x)))) (pc + 1) L rest P) : V Y Z ca sl h pc L (.int x :: .int i :: .ref a :: rest) P := by
  intro p l e s m args below meth c G aC A H locs ls hF hK hRO hA hn hR hz hS hL
  obtain ⟨ws, hP, hD, hC⟩ := id hR
  obtain ⟨q, hq⟩ := hC.at ha
  exact va_iast hF.1 hF.2.1 hK hP hD hS.here q 0 hq rfl hin hdg (fun H1 locs1 hP1 hD1 hS1 => V.go k hF hK hRO hA hn hz hS hL ⟨_, hP1, hD1, hC.set (o := .inl (0, n, .inl (upd f i.toNatClampNeg x))) hq⟩ hS1)
theorem V.last {a n : Nat} {f : Nat → Int64} {i : Int32} {x : Int64} (hdg : decode Y.2.1 pc = .ok (.lastore, 1)) (ha : h a = some (.inl (1, n, .inr (.inl f)))) (hin : vp_in i n) (k : V Y Z ca sl (up h a (.inl (1, n, .inr (.inl (vp_updL f i.toNatClampNeg x))))) (pc + 1) L rest P) : V Y Z ca sl h pc L (.long x :: .int i :: .ref a :: rest) P := by
  intro p l e s m args below meth c G aC A H locs ls hF hK hRO hA hn hR hz hS hL
  obtain ⟨ws, hP, hD, hC⟩ := id hR
  obtain ⟨q, hq⟩ := hC.at ha
  exact va_last hF.1 hF.2.1 hK hP hD hS.here q 1 hq rfl hin hdg (fun H1 locs1 hP1 hD1 hS1 => V.go k hF hK hRO hA hn hz hS hL ⟨_, hP1, hD1, hC.set (o := .inl (1, n, .inr (.inl (vp_updL f i.toNatClampNeg x)))) hq⟩ hS1)
theorem V.zast {a n : Nat} {f : Nat → Int32} {i : Int32} {x : Int32} (hdg : decode Y.2.1 pc = .ok (.bastore, 1)) (ha : h a = some (.inl (2, n, .inl f))) (hin : vp_in i n) (k : V Y Z ca sl (up h a (.inl (2, n, .inl (upd f i.toNatClampNeg (vp_nar .boolean x))))) (pc + 1) L rest P) : V Y Z ca sl h pc L (.int x :: .int i :: .ref a :: rest) P := by
  intro p l e s m args below meth c G aC A H locs ls hF hK hRO hA hn hR hz hS hL
  obtain ⟨ws, hP, hD, hC⟩ := id hR
  obtain ⟨q, hq⟩ := hC.at ha
  exact va_zast hF.1 hF.2.1 hK hP hD hS.here q 2 hq rfl hin hdg (fun H1 locs1 hP1 hD1 hS1 => V.go k hF hK hRO hA hn hz hS hL ⟨_, hP1, hD1, hC.set (o := .inl (2, n, .inl (upd f i.toNatClampNeg (vp_nar .boolean x)))) hq⟩ hS1)
theorem V.alen {a t : Nat} {x : vp_A} {v : Int32} (hdg : decode Y.2.1 pc = .ok (.arraylength, 1)) (ha : h a = some (.inl (t, x))) (ht : t < 3) (hv : Int32.ofNat x.1 = v) (k : V Y Z ca sl h (pc + 1) L (.int v :: rest) P) : V Y Z ca sl h pc L (.ref a :: rest) P := by
  intro p l e s m args below meth c G aC A H locs ls hF hK hRO hA hn hR hz hS hL
  obtain ⟨ws, hP, hD, hC⟩ := id hR
  obtain ⟨q, hq⟩ := hC.at ha
  rcases (show t = 0 ∨ t = 1 ∨ t = 2 by omega) with rfl | rfl | rfl
  · exact va_alen hF.1 hF.2.1 hK hP q 0 hq rfl hv hdg (k p l e s m args below meth c G aC A H locs ls hF hK hRO hA hn hR hz hS hL)
  · exact va_alen hF.1 hF.2.1 hK hP q 1 hq rfl hv hdg (k p l e s m args below meth c G aC A H locs ls hF hK hRO hA hn hR hz hS hL)
  · exact va_alen hF.1 hF.2.1 hK hP q 2 hq rfl hv hdg (k p l e s m args below meth c G aC A H locs ls hF hK hRO hA hn hR hz hS hL)
theorem V.newI {d mc ms n0 : Nat} {κ : Kd} {n : Int32} {M : Nat} (harr : Cond.arrayClass .int ∈ BG) (hdg : decode Y.2.1 pc = .ok (.newarray .int, 2)) (hn1 : ¬ n < 0) (hN : n.toNatClampNeg = M) (hby : M * 8 ≤ 536870912) (hm : ca + 1 ≤ mc ∧ sl + M ≤ ms)
    (k : V Y (d, mc, ms, n0, κ) (ca + 1) (sl + M) (up h (n0 + ca) (.inl (0, M, .inl (fun _ => 0)))) (pc + 2) L (.ref (n0 + ca) :: rest) P) : V Y (d, mc, ms, n0, κ) ca sl h pc L (.int n :: rest) P := by
  intro p l e s m args below meth c G aC A H locs ls hF hK hRO hA hn hR hz hS hL
  obtain ⟨ws, hP, hD, hC⟩ := hR
  refine va_newaK (atype := .int) (N := M) hF.1 hF.2.1 (hF.2.2.2.2.1 _ harr) rfl hdg rfl hn1 hN (by show M * _ ≤ _; simp only [newarray.typeOf, componentBytes]; omega) hm.1 hm.2 hz (fun H1 cA e1 z1 o1 hAr hNm => ?_)
  have hcA : cA = aC 0 := Option.some.inj (hNm.symm.trans (hK.2 0 _ rfl).2)
  subst hcA
  have o1 : ∀ q, q < H.size → H1[q]? = H[q]? := fun q hq => o1 q (by rw [← hz]; exact hq)
  have hk : ∀ (j : Nat) (x : Nat × va_E), ws[j]? = some x → H1[x.1]? = H[x.1]? := fun j x hx => o1 x.1 ((hP j x hx).lt)
  refine k p l e s m args below meth c G aC A H1 locs ls hF hK hRO hA hn ⟨ws ++ [(n0 + ca, co aC (.inl (0, M, .inl (fun _ => 0))))], (hP.kept hk).app (fun j x hx => ?_), hD.push hP hz.symm (hA _ (by show s.heap.size ≤ n0 + ca; rw [show s.heap.size = n0 from hn]; omega)), hC.push⟩ (by rw [z1]; show n0 + ca + 1 = n0 + (ca + 1); omega) ⟨Nat.le_trans hS.1 (by rw [z1, hz]; exact Nat.le_succ _), fun x h1 h2 => (o1 x (Nat.lt_of_lt_of_le h1 hS.1)).trans (hS.2.1 x h1 h2), hS.2.2⟩ hL
  have hj : j < 1 := (List.getElem?_eq_some_iff.mp hx).1
  rw [show j = 0 by omega] at hx
  cases hx
  exact e1
theorem V.newJ {d mc ms n0 : Nat} {κ : Kd} {n : Int32} {M : Nat} (harr : Cond.arrayClass .long ∈ BG) (hdg : decode Y.2.1 pc = .ok (.newarray .long, 2)) (hn1 : ¬ n < 0) (hN : n.toNatClampNeg = M) (hby : M * 8 ≤ 536870912) (hm : ca + 1 ≤ mc ∧ sl + M ≤ ms)
    (k : V Y (d, mc, ms, n0, κ) (ca + 1) (sl + M) (up h (n0 + ca) (.inl (1, M, .inr (.inl (fun _ => 0))))) (pc + 2) L (.ref (n0 + ca) :: rest) P) : V Y (d, mc, ms, n0, κ) ca sl h pc L (.int n :: rest) P := by
  intro p l e s m args below meth c G aC A H locs ls hF hK hRO hA hn hR hz hS hL
  obtain ⟨ws, hP, hD, hC⟩ := hR
  refine va_newaK (atype := .long) (N := M) hF.1 hF.2.1 (hF.2.2.2.2.1 _ harr) rfl hdg rfl hn1 hN (by show M * _ ≤ _; simp only [newarray.typeOf, componentBytes]; omega) hm.1 hm.2 hz (fun H1 cA e1 z1 o1 hAr hNm => ?_)
  have hcA : cA = aC 1 := Option.some.inj (hNm.symm.trans (hK.2 1 _ rfl).2)
  subst hcA
  have o1 : ∀ q, q < H.size → H1[q]? = H[q]? := fun q hq => o1 q (by rw [← hz]; exact hq)
  have hk : ∀ (j : Nat) (x : Nat × va_E), ws[j]? = some x → H1[x.1]? = H[x.1]? := fun j x hx => o1 x.1 ((hP j x hx).lt)
  refine k p l e s m args below meth c G aC A H1 locs ls hF hK hRO hA hn ⟨ws ++ [(n0 + ca, co aC (.inl (1, M, .inr (.inl (fun _ => 0)))))], (hP.kept hk).app (fun j x hx => ?_), hD.push hP hz.symm (hA _ (by show s.heap.size ≤ n0 + ca; rw [show s.heap.size = n0 from hn]; omega)), hC.push⟩ (by rw [z1]; show n0 + ca + 1 = n0 + (ca + 1); omega) ⟨Nat.le_trans hS.1 (by rw [z1, hz]; exact Nat.le_succ _), fun x h1 h2 => (o1 x (Nat.lt_of_lt_of_le h1 hS.1)).trans (hS.2.1 x h1 h2), hS.2.2⟩ hL
  have hj : j < 1 := (List.getElem?_eq_some_iff.mp hx).1
  rw [show j = 0 by omega] at hx
  cases hx
  exact e1
theorem V.newZ {d mc ms n0 : Nat} {κ : Kd} {n : Int32} {M : Nat} (harr : Cond.arrayClass .boolean ∈ BG) (hdg : decode Y.2.1 pc = .ok (.newarray .boolean, 2)) (hn1 : ¬ n < 0) (hN : n.toNatClampNeg = M) (hby : M * 8 ≤ 536870912) (hm : ca + 1 ≤ mc ∧ sl + M ≤ ms)
    (k : V Y (d, mc, ms, n0, κ) (ca + 1) (sl + M) (up h (n0 + ca) (.inl (2, M, .inl (fun _ => 0)))) (pc + 2) L (.ref (n0 + ca) :: rest) P) : V Y (d, mc, ms, n0, κ) ca sl h pc L (.int n :: rest) P := by
  intro p l e s m args below meth c G aC A H locs ls hF hK hRO hA hn hR hz hS hL
  obtain ⟨ws, hP, hD, hC⟩ := hR
  refine va_newaK (atype := .boolean) (N := M) hF.1 hF.2.1 (hF.2.2.2.2.1 _ harr) rfl hdg rfl hn1 hN (by show M * _ ≤ _; simp only [newarray.typeOf, componentBytes]; omega) hm.1 hm.2 hz (fun H1 cA e1 z1 o1 hAr hNm => ?_)
  have hcA : cA = aC 2 := Option.some.inj (hNm.symm.trans (hK.2 2 _ rfl).2)
  subst hcA
  have o1 : ∀ q, q < H.size → H1[q]? = H[q]? := fun q hq => o1 q (by rw [← hz]; exact hq)
  have hk : ∀ (j : Nat) (x : Nat × va_E), ws[j]? = some x → H1[x.1]? = H[x.1]? := fun j x hx => o1 x.1 ((hP j x hx).lt)
  refine k p l e s m args below meth c G aC A H1 locs ls hF hK hRO hA hn ⟨ws ++ [(n0 + ca, co aC (.inl (2, M, .inl (fun _ => 0))))], (hP.kept hk).app (fun j x hx => ?_), hD.push hP hz.symm (hA _ (by show s.heap.size ≤ n0 + ca; rw [show s.heap.size = n0 from hn]; omega)), hC.push⟩ (by rw [z1]; show n0 + ca + 1 = n0 + (ca + 1); omega) ⟨Nat.le_trans hS.1 (by rw [z1, hz]; exact Nat.le_succ _), fun x h1 h2 => (o1 x (Nat.lt_of_lt_of_le h1 hS.1)).trans (hS.2.1 x h1 h2), hS.2.2⟩ hL
  have hj : j < 1 := (List.getElem?_eq_some_iff.mp hx).1
  rw [show j = 0 by omega] at hx
  cases hx
  exact e1
theorem V.new {ci : Nat} {C : String} {T : u_T} {N : Nat} {ty : Nat → FieldType} {d mc ms n0 : Nat} {κ : Kd} (ok : Cok ci C T N ty) {idx : Nat} {fs : List Value} (hlk : Cond.classLink Y.1.cls idx C ∈ BG) (hins : Cond.instantiable C N ∈ BG) (hini : Cond.initialized C ∈ BG) (hdg : decode Y.2.1 pc = .ok (.new idx, 3)) (hfs : ∀ j, j < N → defaultValue (ty j) = vp_V fs j) (hm : ca + 1 ≤ mc ∧ sl + N ≤ ms)
    (k : V Y (d, mc, ms, n0, κ) (ca + 1) (sl + N) (up h (n0 + ca) (.inr (ci, fs))) (pc + 3) L (.ref (n0 + ca) :: rest) P) : V Y (d, mc, ms, n0, κ) ca sl h pc L rest P := by
  intro p l e s m args below meth c G aC A H locs ls hF hK hRO hA hn hR hz hS hL
  obtain ⟨ws, hP, hD, hC⟩ := hR
  have hKn := hK.1 ci _ ok.1
  refine W.newcK hF.1 hF.2.1 hF.2.2.2.1 (hF.2.2.2.2.1 _ hlk) (hF.2.2.2.2.1 _ hins) (hF.2.2.2.2.1 _ hini) rfl hdg hm.1 hm.2 hKn.2.1 hz (fun H1 kC hkC e1 z1 o1 => ?_)
  have o1 : ∀ q, q < H.size → H1[q]? = H[q]? := fun q hq => o1 q (by rw [← hz]; exact hq)
  have hk : ∀ (j : Nat) (x : Nat × va_E), ws[j]? = some x → H1[x.1]? = H[x.1]? := fun j x hx => o1 x.1 ((hP j x hx).lt)
  refine k p l e s m args below meth c G aC A H1 locs ls hF hK hRO hA hn ⟨ws ++ [(n0 + ca, co aC (.inr (ci, fs)))], (hP.kept hk).app (fun j x hx => ?_), hD.push hP hz.symm (hA _ (by show s.heap.size ≤ n0 + ca; rw [show s.heap.size = n0 from hn]; omega)), hC.push⟩ (by rw [z1]; show n0 + ca + 1 = n0 + (ca + 1); omega) ⟨Nat.le_trans hS.1 (by rw [z1, hz]; exact Nat.le_succ _), fun x h1 h2 => (o1 x (Nat.lt_of_lt_of_le h1 hS.1)).trans (hS.2.1 x h1 h2), hS.2.2⟩ hL
  have hj : j < 1 := (List.getElem?_eq_some_iff.mp hx).1
  rw [show j = 0 by omega] at hx
  cases hx
  exact ⟨_, ok.1, (u_born ty hF.2.2.2.2.1 ok.2.1 hKn hkC e1 ok.2.2.1).to hfs⟩
theorem V.objInit {d mc ms n0 : Nat} {κ : Kd} {idx a : Nat} (hlk : Cond.methodLink Y.1.cls idx Lib.objectInit ∈ BG) (hin : Cond.instanceMethod Lib.objectInit ∈ BG) (hcode : Cond.code Lib.objectInit ⟨#[0xb1]⟩ 1 none ∈ BG) (hdg : decode Y.2.1 pc = .ok (.invokespecial idx, 3)) (hd : 1 ≤ d) (hrm : (rest.map fun v => v.category).sum ≤ 8)
    (k : V Y (d, mc, ms, n0, κ) ca sl h (pc + 3) L rest P) : V Y (d, mc, ms, n0, κ) ca sl h pc L (.ref a :: rest) P := by
  intro p l e s m args below meth c G aC A H locs ls hF hK hRO hA hn hR hz hS hL
  exact W.objInit hF.1 hF.2.1 hF.2.2.2.1 (hF.2.2.2.2.1 _ hlk) (hF.2.2.2.2.1 _ hin) (hF.2.2.2.2.1 _ hcode) rfl ((lh_size hL).trans hF.2.2.1.symm) rfl hdg hd (by show 2 * 0 + _ + 12 ≤ 41 * d; omega) (k p l e s m args below meth c G aC A H locs ls hF hK hRO hA hn hR hz hS hL)
theorem V.mmin {d mc ms n0 : Nat} {κ : Kd} {idx : Nat} {x y : Int32} (hlk : Cond.methodLink Y.1.cls idx Lib.Math.min.name ∈ BG) (hst : Cond.static Lib.Math.min.name ∈ BG) (hini : Cond.initialized "java/lang/Math" ∈ BG) (hcode : Cond.code Lib.Math.min.name Lib.Math.min.code 2 (some .int) ∈ BG) (hdg : decode Y.2.1 pc = .ok (.invokestatic idx, 3)) (hd : 1 ≤ d) (hrm : (rest.map fun v => v.category).sum ≤ 8) (hm : ca ≤ mc ∧ sl ≤ ms)
    (k : V Y (d, mc, ms, n0, κ) ca sl h (pc + 3) L (.int (if y < x then y else x) :: rest) P) : V Y (d, mc, ms, n0, κ) ca sl h pc L (.int y :: .int x :: rest) P := by
  intro p l e s m args below meth c G aC A H locs ls hF hK hRO hA hn hR hz hS hL
  exact va_mmin hF.1 hF.2.1 (hF.2.2.1.trans (lh_size hL).symm) hF.2.2.2.1 (hF.2.2.2.2.1 _ hlk) (hF.2.2.2.2.1 _ hst) (hF.2.2.2.2.1 _ hini) (hF.2.2.2.2.1 _ hcode) hd (by show _ + 13 ≤ 41 * d; omega) hm.1 hm.2 hdg (k p l e s m args below meth c G aC A H locs ls hF hK hRO hA hn hR hz hS hL)
theorem V.mmax {d mc ms n0 : Nat} {κ : Kd} {idx : Nat} {x y : Int32} (hlk : Cond.methodLink Y.1.cls idx Lib.Math.max.name ∈ BG) (hst : Cond.static Lib.Math.max.name ∈ BG) (hini : Cond.initialized "java/lang/Math" ∈ BG) (hcode : Cond.code Lib.Math.max.name Lib.Math.max.code 2 (some .int) ∈ BG) (hdg : decode Y.2.1 pc = .ok (.invokestatic idx, 3)) (hd : 1 ≤ d) (hrm : (rest.map fun v => v.category).sum ≤ 8) (hm : ca ≤ mc ∧ sl ≤ ms)
    (k : V Y (d, mc, ms, n0, κ) ca sl h (pc + 3) L (.int (if x < y then y else x) :: rest) P) : V Y (d, mc, ms, n0, κ) ca sl h pc L (.int y :: .int x :: rest) P := by
  intro p l e s m args below meth c G aC A H locs ls hF hK hRO hA hn hR hz hS hL
  exact va_mmax hF.1 hF.2.1 (hF.2.2.1.trans (lh_size hL).symm) hF.2.2.2.1 (hF.2.2.2.2.1 _ hlk) (hF.2.2.2.2.1 _ hst) (hF.2.2.2.2.1 _ hini) (hF.2.2.2.2.1 _ hcode) hd (by show _ + 13 ≤ 41 * d; omega) hm.1 hm.2 hdg (k p l e s m args below meth c G aC A H locs ls hF hK hRO hA hn hR hz hS hL)
theorem V.mminl {d mc ms n0 : Nat} {κ : Kd} {idx : Nat} {x y : Int64} (hlk : Cond.methodLink Y.1.cls idx Lib.MathLoose.min_long.x ∈ BG) (hst : Cond.static Lib.MathLoose.min_long.x ∈ BG) (hini : Cond.initialized "java/lang/Math" ∈ BG) (hcode : Cond.code Lib.MathLoose.min_long.x Lib.MathLoose.min_long.code 4 (some .long) ∈ BG) (hdg : decode Y.2.1 pc = .ok (.invokestatic idx, 3)) (hd : 1 ≤ d) (hrm : (rest.map fun v => v.category).sum ≤ 8) (hm : ca ≤ mc ∧ sl ≤ ms)
    (k : V Y (d, mc, ms, n0, κ) ca sl h (pc + 3) L (.long (if y < x then y else x) :: rest) P) : V Y (d, mc, ms, n0, κ) ca sl h pc L (.long y :: .long x :: rest) P := by
  intro p l e s m args below meth c G aC A H locs ls hF hK hRO hA hn hR hz hS hL
  exact va_mmin_long hF.1 hF.2.1 (hF.2.2.1.trans (lh_size hL).symm) hF.2.2.2.1 (hF.2.2.2.2.1 _ hlk) (hF.2.2.2.2.1 _ hst) (hF.2.2.2.2.1 _ hini) (hF.2.2.2.2.1 _ hcode) hd (by show _ + 15 ≤ 41 * d; omega) hm.1 hm.2 hdg (k p l e s m args below meth c G aC A H locs ls hF hK hRO hA hn hR hz hS hL)
theorem V.mmaxl {d mc ms n0 : Nat} {κ : Kd} {idx : Nat} {x y : Int64} (hlk : Cond.methodLink Y.1.cls idx Lib.MathLoose.max_long.x ∈ BG) (hst : Cond.static Lib.MathLoose.max_long.x ∈ BG) (hini : Cond.initialized "java/lang/Math" ∈ BG) (hcode : Cond.code Lib.MathLoose.max_long.x Lib.MathLoose.max_long.code 4 (some .long) ∈ BG) (hdg : decode Y.2.1 pc = .ok (.invokestatic idx, 3)) (hd : 1 ≤ d) (hrm : (rest.map fun v => v.category).sum ≤ 8) (hm : ca ≤ mc ∧ sl ≤ ms)
    (k : V Y (d, mc, ms, n0, κ) ca sl h (pc + 3) L (.long (if y < x then x else y) :: rest) P) : V Y (d, mc, ms, n0, κ) ca sl h pc L (.long y :: .long x :: rest) P := by
  intro p l e s m args below meth c G aC A H locs ls hF hK hRO hA hn hR hz hS hL
  exact va_mmax_long hF.1 hF.2.1 (hF.2.2.1.trans (lh_size hL).symm) hF.2.2.2.1 (hF.2.2.2.2.1 _ hlk) (hF.2.2.2.2.1 _ hst) (hF.2.2.2.2.1 _ hini) (hF.2.2.2.2.1 _ hcode) hd (by show _ + 15 ≤ 41 * d; omega) hm.1 hm.2 hdg (k p l e s m args below meth c G aC A H locs ls hF hK hRO hA hn hR hz hS hL)
theorem V.mabsl {d mc ms n0 : Nat} {κ : Kd} {idx : Nat} {x : Int64} (hlk : Cond.methodLink Y.1.cls idx Lib.MathLoose.abs_long.x ∈ BG) (hst : Cond.static Lib.MathLoose.abs_long.x ∈ BG) (hini : Cond.initialized "java/lang/Math" ∈ BG) (hcode : Cond.code Lib.MathLoose.abs_long.x Lib.MathLoose.abs_long.code 2 (some .long) ∈ BG) (hdg : decode Y.2.1 pc = .ok (.invokestatic idx, 3)) (hd : 1 ≤ d) (hrm : (rest.map fun v => v.category).sum ≤ 8) (hm : ca ≤ mc ∧ sl ≤ ms)
    (k : V Y (d, mc, ms, n0, κ) ca sl h (pc + 3) L (.long (if 0 < x then x else -x) :: rest) P) : V Y (d, mc, ms, n0, κ) ca sl h pc L (.long x :: rest) P := by
  intro p l e s m args below meth c G aC A H locs ls hF hK hRO hA hn hR hz hS hL
  exact va_mabs_long hF.1 hF.2.1 (hF.2.2.1.trans (lh_size hL).symm) hF.2.2.2.1 (hF.2.2.2.2.1 _ hlk) (hF.2.2.2.2.1 _ hst) (hF.2.2.2.2.1 _ hini) (hF.2.2.2.2.1 _ hcode) hd (by show _ + 13 ≤ 41 * d; omega) hm.1 hm.2 hdg (k p l e s m args below meth c G aC A H locs ls hF hK hRO hA hn hR hz hS hL)
theorem V.copyI {d mc ms n0 : Nat} {κ : Kd} {idx a a0 : Nat} {m0 m1 : Nat} {f g : Nat → Int32} {sp dp n : Int32} (hlk : Cond.methodLink Y.1.cls idx arraycopyName ∈ BG) (hnat : Cond.native arraycopyName ∈ BG) (hst : Cond.static arraycopyName ∈ BG) (hini : Cond.initialized "java/lang/System" ∈ BG) (hdg : decode Y.2.1 pc = .ok (.invokestatic idx, 3))
    (ha0 : h a0 = some (.inl (0, m0, .inl f))) (ha : h a = some (.inl (0, m1, .inl g))) (h1 : ¬ sp < 0) (h2 : ¬ dp < 0) (h3 : ¬ n < 0) (h4 : sp.toNatClampNeg + n.toNatClampNeg ≤ m0) (h5 : dp.toNatClampNeg + n.toNatClampNeg ≤ m1) (hd : 1 ≤ d) (hrm : (rest.map fun v => v.category).sum ≤ 8)
    (k : V Y (d, mc, ms, n0, κ) ca sl (up h a (.inl (0, m1, .inl (va_cpy f g sp.toNatClampNeg dp.toNatClampNeg n.toNatClampNeg)))) (pc + 3) L rest P) : V Y (d, mc, ms, n0, κ) ca sl h pc L (.int n :: .int dp :: .ref a :: .int sp :: .ref a0 :: rest) P := by
  intro p l e s m args below meth c G aC A H locs ls hF hK hRO hA hn hR hz hS hL
  obtain ⟨ws, hP, hD, hC⟩ := id hR
  obtain ⟨q, hq⟩ := hC.at ha
  obtain ⟨q0, hq0⟩ := hC.at ha0
  exact va_copyi hF.1 hF.2.1 (hF.2.2.1.trans (lh_size hL).symm) hF.2.2.2.1 (hF.2.2.2.2.1 _ hlk) (hF.2.2.2.2.1 _ hnat) (hF.2.2.2.2.1 _ hst) (hF.2.2.2.2.1 _ hini) hK hP hD hS.here q0 q 0 0 (ty := .int) hq0 hq rfl rfl rfl h1 h2 h3 h4 h5 (fun _ _ => rfl) hd (cpy_room hd hrm) hdg (fun H1 locs1 hP1 hD1 hS1 => V.go k hF hK hRO hA hn hz hS hL ⟨_, hP1, hD1, hC.set (o := .inl (0, m1, .inl (va_cpy f g sp.toNatClampNeg dp.toNatClampNeg n.toNatClampNeg))) hq⟩ hS1)
theorem V.copyJ {d mc ms n0 : Nat} {κ : Kd} {idx a a0 : Nat} {m0 m1 : Nat} {f g : Nat → Int64} {sp dp n : Int32} (hlk : Cond.methodLink Y.1.cls idx arraycopyName ∈ BG) (hnat : Cond.native arraycopyName ∈ BG) (hst : Cond.static arraycopyName ∈ BG) (hini : Cond.initialized "java/lang/System" ∈ BG) (hdg : decode Y.2.1 pc = .ok (.invokestatic idx, 3))
    (ha0 : h a0 = some (.inl (1, m0, .inr (.inl f)))) (ha : h a = some (.inl (1, m1, .inr (.inl g)))) (h1 : ¬ sp < 0) (h2 : ¬ dp < 0) (h3 : ¬ n < 0) (h4 : sp.toNatClampNeg + n.toNatClampNeg ≤ m0) (h5 : dp.toNatClampNeg + n.toNatClampNeg ≤ m1) (hd : 1 ≤ d) (hrm : (rest.map fun v => v.category).sum ≤ 8)
    (k : V Y (d, mc, ms, n0, κ) ca sl (up h a (.inl (1, m1, .inr (.inl (va_cpy f g sp.toNatClampNeg dp.toNatClampNeg n.toNatClampNeg))))) (pc + 3) L rest P) : V Y (d, mc, ms, n0, κ) ca sl h pc L (.int n :: .int dp :: .ref a :: .int sp :: .ref a0 :: rest) P := by
  intro p l e s m args below meth c G aC A H locs ls hF hK hRO hA hn hR hz hS hL
  obtain ⟨ws, hP, hD, hC⟩ := id hR
  obtain ⟨q, hq⟩ := hC.at ha
  obtain ⟨q0, hq0⟩ := hC.at ha0
  exact va_copyl hF.1 hF.2.1 (hF.2.2.1.trans (lh_size hL).symm) hF.2.2.2.1 (hF.2.2.2.2.1 _ hlk) (hF.2.2.2.2.1 _ hnat) (hF.2.2.2.2.1 _ hst) (hF.2.2.2.2.1 _ hini) hK hP hD hS.here q0 q 1 1 hq0 hq rfl rfl rfl h1 h2 h3 h4 h5 (fun _ _ => rfl) hd (cpy_room hd hrm) hdg (fun H1 locs1 hP1 hD1 hS1 => V.go k hF hK hRO hA hn hz hS hL ⟨_, hP1, hD1, hC.set (o := .inl (1, m1, .inr (.inl (va_cpy f g sp.toNatClampNeg dp.toNatClampNeg n.toNatClampNeg)))) hq⟩ hS1)
theorem V.iret {x : Int32} {d n0 : Nat} {κ : Kd} (hdg : decode Y.2.1 pc = .ok (.ireturn, 1)) (hrt : Y.2.2.2 = some .int) (hP : P (some (.int x)) h) : V Y (d, ca, sl, n0, κ) ca sl h pc L [.int x] P := by
  intro p l e s m args below meth c G aC A H locs ls hF hK hRO hA hn hR hz hS hL
  exact W.iret hF.1 hF.2.1 (hF.2.2.2.2.2.1.trans hrt) (fun t ht hW => ⟨⟨_, h, rfl, hP, by rw [ht]; exact hR, by rw [ht, hn]; exact hz⟩, hS.F ht⟩) hS.2.2 hdg hF.2.2.2.2.2.2.1
theorem V.lret {x : Int64} {d n0 : Nat} {κ : Kd} (hdg : decode Y.2.1 pc = .ok (.lreturn, 1)) (hrt : Y.2.2.2 = some .long) (hP : P (some (.long x)) h) : V Y (d, ca, sl, n0, κ) ca sl h pc L [.long x] P := by
  intro p l e s m args below meth c G aC A H locs ls hF hK hRO hA hn hR hz hS hL
  exact W.lret hF.1 hF.2.1 (hF.2.2.2.2.2.1.trans hrt) (fun t ht hW => ⟨⟨_, h, rfl, hP, by rw [ht]; exact hR, by rw [ht, hn]; exact hz⟩, hS.F ht⟩) hS.2.2 hdg hF.2.2.2.2.2.2.1
theorem V.vret {d n0 : Nat} {κ : Kd} (hdg : decode Y.2.1 pc = .ok (.return_, 1)) (hrt : Y.2.2.2 = none) (hP : P (none) h) : V Y (d, ca, sl, n0, κ) ca sl h pc L [] P := by
  intro p l e s m args below meth c G aC A H locs ls hF hK hRO hA hn hR hz hS hL
  exact W.vret hF.1 hF.2.1 (hF.2.2.2.2.2.1.trans hrt) (fun t ht hW => ⟨⟨_, h, rfl, hP, by rw [ht]; exact hR, by rw [ht, hn]; exact hz⟩, hS.F ht⟩) hS.2.2 hdg hF.2.2.2.2.2.2.1
theorem V.zret {x : Int32} {d n0 : Nat} {κ : Kd} (ty0 : FieldType) (hdg : decode Y.2.1 pc = .ok (.ireturn, 1)) (hrt : Y.2.2.2 = some ty0) (hx : narrow ty0 (.int x) = .int x) (hP : P (some (.int x)) h) : V Y (d, ca, sl, n0, κ) ca sl h pc L [.int x] P := by
  intro p l e s m args below meth c G aC A H locs ls hF hK hRO hA hn hR hz hS hL
  exact W.zret hF.1 hF.2.1 (hF.2.2.2.2.2.1.trans hrt) hx (fun t ht hW => ⟨⟨_, h, rfl, hP, by rw [ht]; exact hR, by rw [ht, hn]; exact hz⟩, hS.F ht⟩) hS.2.2 hdg hF.2.2.2.2.2.2.1
theorem V.getW {idx : Nat} (hlk : Cond.fieldLink Y.1.cls idx "BurntEnds" "WORDS" "[I" ∈ BG) (hdg : decode Y.2.1 pc = .ok (.getstatic idx, 3)) (k : V Y Z ca sl h (pc + 3) L (.ref Z.2.2.2.2.1 :: rest) P) : V Y Z ca sl h pc L rest P := by
  intro p l e s m args below meth c G aC A H locs ls hF hK hRO hA hn hR hz hS hL
  exact va_gets hF.1 hF.2.1 hRO.1.1 hS hF.2.2.2.1 (hF.2.2.2.2.1 _ hlk) (fun x hx => hx) hdg (k p l e s m args below meth c G aC A H locs ls hF hK hRO hA hn hR hz hS hL)
theorem V.lenW (hdg : decode Y.2.1 pc = .ok (.arraylength, 1)) (k : V Y Z ca sl h (pc + 1) L (.int 21 :: rest) P) : V Y Z ca sl h pc L (.ref Z.2.2.2.2.1 :: rest) P := by
  intro p l e s m args below meth c G aC A H locs ls hF hK hRO hA hn hR hz hS hL
  exact va_tlen hF.1 hF.2.1 hRO.1.2 hS rfl hdg (k p l e s m args below meth c G aC A H locs ls hF hK hRO hA hn hR hz hS hL)
theorem V.atW {i : Int32} (hdg : decode Y.2.1 pc = .ok (.iaload, 1)) (hin : vp_in i 21) (k : V Y Z ca sl h (pc + 1) L (.int (wW.getD i.toNatClampNeg 0) :: rest) P) : V Y Z ca sl h pc L (.int i :: .ref Z.2.2.2.2.1 :: rest) P := by
  intro p l e s m args below meth c G aC A H locs ls hF hK hRO hA hn hR hz hS hL
  exact va_ti hF.1 hF.2.1 hRO.1.2 hS hin rfl hdg (k p l e s m args below meth c G aC A H locs ls hF hK hRO hA hn hR hz hS hL)
end Rows
